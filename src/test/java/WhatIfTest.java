/** Promises 15 to 20: why, ifLeapt, frees, quietIn, stepIn, thickest. */
public final class WhatIfTest {
    private static final int NO_SUCH = -1, BAD_VALUE = -2, NOT_POSSIBLE = -5, NONE = -6;
    private static final Due due = new Due();

    public static void main(String[] args) {
        why();
        whyFirstReason();
        whyBound();
        whyBoundAhead();
        whyBall();
        ifLeapt();
        frees();
        freesManyWays();
        quietIn();
        stepIn();
        thickest();
        due.end();
    }

    private static KittenStairs roomy(int... steps) {
        KittenStairs x = new KittenStairs();
        x.set(KittenStairs.VIM, 60);
        x.set(KittenStairs.LEAP, 8);
        x.set(KittenStairs.BIND, 15);
        for (int step : steps) x.kitten(step);
        return x;
    }

    /** Lays strands at the edge above a step, lowest first, by kittens that all are on that step at first. */
    private static KittenStairs laid(int step, String kittens) {
        KittenStairs x = roomy(step, step, step);
        boolean[] above = new boolean[3];
        for (char sign : kittens.toCharArray()) {
            int k = sign - '0';
            x.leap(k, above[k] ? -1 : 1);
            above[k] = !above[k];
        }
        return x;
    }

    private static void why() {
        KittenStairs x = new KittenStairs();
        x.kitten(8);
        due.is("3 up", x.why(0, 3), 0);
        due.is("4 up", x.why(0, 4), 3);
        due.is("6 down", x.why(0, -6), 0);
        due.is("7 down", x.why(0, -7), 3);
        due.is("to step 16", x.why(0, 8), 2);
        due.is("to step 15", x.why(0, 7), 3);
        due.is("to step 0", x.why(0, -8), 3);
        due.is("to step -1", x.why(0, -9), 2);
        due.is("why(1, 1)", x.why(1, 1), NO_SUCH);
        due.is("why(-1, 1)", x.why(-1, 1), NO_SUCH);
        due.is("why(1, 0)", x.why(1, 0), NO_SUCH);
        due.is("why(0, 0)", x.why(0, 0), BAD_VALUE);
        due.is("why(0, 16)", x.why(0, 16), BAD_VALUE);
        due.is("why(0, -16)", x.why(0, -16), BAD_VALUE);
        due.is("why(0, 15)", x.why(0, 15), 2);
        due.is("nothing changed", x.count(8) + x.count(16), 1);
        x.set(KittenStairs.LEAP, 1);
        due.is("1 up", x.why(0, 1), 0);
        due.is("2 up", x.why(0, 2), 3);
        due.is("2 down", x.why(0, -2), 0);
        due.is("3 down", x.why(0, -3), 3);
    }

    private static void whyFirstReason() {
        KittenStairs x = new KittenStairs();
        x.set(KittenStairs.VIM, 2);
        x.kitten(1);
        x.nap(0);
        due.is("napping, off the stairs", x.why(0, -2), 1);
        x.pass(5);
        due.is("off the stairs and too far", x.why(0, 15), 2);
        due.is("too far, and too little vim", x.why(0, 4), 3);
        due.is("too little vim", x.why(0, 2), 4);
        due.is("enough", x.why(0, 1), 0);
    }

    private static void whyBound() {
        KittenStairs x = laid(6, "010");
        // 0 is on step 6, 1 on step 7, 2 on step 6.
        x.set(KittenStairs.BIND, 2);
        due.is("2 apart", x.why(0, -1), 0);
        due.is("3 apart", x.why(0, -2), 5);
        due.is("2 apart on the other side", x.why(0, 3), 0);
        due.is("3 apart on the other side", x.why(0, 4), 5);
        due.is("one that is free", x.why(2, 8), 0);
        x.set(KittenStairs.BIND, 0);
        due.is("farther", x.why(0, -1), 5);
        due.is("as far, on the other side", x.why(0, 2), 0);
        due.is("nearer", x.why(0, 1), 0);
        due.is("too little vim is told first", vimless(x).why(0, -1), 4);
    }

    /** Sends kitten 0 up and down a free edge until its vim is too little for a step. */
    private static KittenStairs vimless(KittenStairs x) {
        x.set(KittenStairs.BIND, 15);
        while (x.why(0, 1) != 4) x.leap(0, 1 - 2 * (x.of(0, 0) % 2));
        while (x.of(0, 1) > 0) x.leap(0, -1);
        x.set(KittenStairs.BIND, 0);
        return x;
    }

    private static void whyBoundAhead() {
        // The leap down over edge 6 would wind back the strand that binds, but they are bound ahead of it.
        KittenStairs x = laid(6, "101");
        x.set(KittenStairs.BIND, 0);
        due.is("steps", x.of(0, 0) * 16 + x.of(1, 0), 7 * 16 + 6);
        due.is("up, winding back", x.why(1, 2), 0);
        due.is("farther, winding back", x.why(1, 3), 5);
        x.leap(1, 1);
        due.is("free", x.bound(0, 1), 0);
        due.is("farther", x.why(1, 3), 0);
        // Those that come to be bound by the leap do not hold it back.
        x = laid(6, "01");
        x.set(KittenStairs.BIND, 0);
        due.is("bound by it", x.why(0, -3), 0);
        due.is("bound then", x.leap(0, -3) == 4 ? x.bound(0, 1) : -9, 1 << 6);
    }

    private static void whyBall() {
        KittenStairs x = roomy(0, 0);
        for (int i = 0; i < 38; i++) {
            x.leap(0, i % 2 == 0 ? 1 : -1);
            x.leap(1, i % 2 == 0 ? 1 : -1);
            x.pass(5);
        }
        due.is("ball", x.of(0, 3), 2);
        due.is("two edges", x.why(0, 2), 0);
        due.is("three edges", x.why(0, 3), 6);
        due.is("one is wound back first", x.why(1, 3), 0);
        due.is("one is wound back, three are laid", x.why(1, 4), 0);
        due.is("one is wound back, four are laid", x.why(1, 5), 6);
        x.leap(1, 4);
        due.is("empty", x.of(1, 3), 0);
        due.is("three come back, one is laid", x.why(1, -4), 0);
        x.leap(0, 4);
        due.is("0's is empty, too", x.of(0, 3), 0);
        due.is("0's lie on top of all", x.why(1, -4), 6);
        x.snip(2, 0);
        x.snip(1, 0);
        due.is("too short at first", x.why(1, -1), 6);
        due.is("long enough in the end, but too short on the way", x.why(1, -3), 6);
        x.snip(3, 0);
        due.is("long enough on the whole way", x.why(1, -3), 0);
        due.is("too far is told ahead of the ball", x.why(1, 9), 3);
    }

    private static void ifLeapt() {
        KittenStairs x = laid(6, "01");
        due.is("laid", x.ifLeapt(0, -3, 0), 3);
        due.is("wound", x.ifLeapt(0, -3, 1), 0);
        due.is("bound then", x.ifLeapt(0, -3, 2), 0b10);
        due.is("free then", x.ifLeapt(0, -3, 3), 0);
        due.is("1 winds back", x.ifLeapt(1, -3, 1), 1);
        due.is("1 lays", x.ifLeapt(1, -3, 0), 2);
        due.is("nothing changed", x.bound(0, 1) + x.of(0, 0) + x.count(8), 9);
        due.is("no change is recorded", x.count(16), 6);
        x.leap(1, -1);
        due.is("not what was wound before", x.ifLeapt(0, -2, 1), 1);
        x.leap(1, 1);
        due.is("of 1, too", x.ifLeapt(1, -3, 1), 1);
        due.is("not what was laid before", x.ifLeapt(1, -3, 0), 2);
        x = laid(6, "0210");
        due.is("0 would be free of both", x.ifLeapt(0, 1, 3), 0b110);
        due.is("0 would be bound to none", x.ifLeapt(0, 1, 2), 0);
        due.is("1 would be bound to 2 and is to 0", x.ifLeapt(2, -1, 2), 0b010);
        due.is("2 stays bound to 0", x.ifLeapt(2, -1, 3), 0);
        due.is("ifLeapt(3, 1, 0)", x.ifLeapt(3, 1, 0), NO_SUCH);
        due.is("ifLeapt(-1, 0, 9)", x.ifLeapt(-1, 0, 9), NO_SUCH);
        due.is("ifLeapt(0, 0, 0)", x.ifLeapt(0, 0, 0), BAD_VALUE);
        due.is("ifLeapt(0, 16, 0)", x.ifLeapt(0, 16, 0), BAD_VALUE);
        due.is("ifLeapt(0, -16, 0)", x.ifLeapt(0, -16, 0), BAD_VALUE);
        due.is("ifLeapt(0, 1, 4)", x.ifLeapt(0, 1, 4), BAD_VALUE);
        due.is("ifLeapt(0, 1, -1)", x.ifLeapt(0, 1, -1), BAD_VALUE);
        due.is("ifLeapt(0, 15, 4)", x.ifLeapt(0, 15, 4), BAD_VALUE);
        due.is("refused", x.ifLeapt(0, 15, 0), NOT_POSSIBLE);
        x.nap(0);
        due.is("napping", x.ifLeapt(0, 1, 0), NOT_POSSIBLE);
    }

    private static void frees() {
        String[] orders = {"", "0", "01", "010", "101", "0101", "01010", "010101", "02120", "0210", "2021201"};
        int[] fewest = {0, 0, 0, 1, 1, 1, 2, 2, 1, 1, 1};
        for (int i = 0; i < orders.length; i++) {
            KittenStairs x = laid(9, orders[i]);
            due.is("frees by " + orders[i], x.frees(0, 1), fewest[i]);
            due.is("frees the other way round by " + orders[i], x.frees(1, 0), fewest[i]);
        }
        KittenStairs x = laid(9, "010");
        due.is("frees(0, 0)", x.frees(0, 0), BAD_VALUE);
        due.is("frees(0, 3)", x.frees(0, 3), NO_SUCH);
        due.is("frees(3, 0)", x.frees(3, 0), NO_SUCH);
        due.is("frees(3, 3)", x.frees(3, 3), NO_SUCH);
        due.is("frees(-1, 0)", x.frees(-1, 0), NO_SUCH);
        due.is("nothing changed", x.ofEdge(9, 0), 3);
    }

    private static void freesManyWays() {
        KittenStairs x = roomy(0, 0);
        x.leap(0, 3);
        x.leap(1, 3);
        x.leap(0, -3);
        due.is("one at each of three edges", x.frees(0, 1), 3);
        x.leap(1, -3);
        due.is("0101 at each", x.frees(0, 1), 3);
        x.leap(0, 1);
        due.is("01010 at one", x.frees(0, 1), 4);
        // 0 0 1 0 0: it is dearer to part the four of 0 than to let the one of 1 go.
        x = laid(4, "020201020");
        x.snip(4, 2);
        due.is("strands", x.ofEdge(4, 0), 6);
        due.is("the one between", x.frees(0, 1), 1);
        due.is("bound", x.bound(0, 1), 1 << 4);
        // 0 0 1 1 0 0 1 1 0: all of 1 may stay.
        x = laid(4, "02012102021210");
        x.snip(4, 2);
        due.is("strands", x.strand(4, 0) * 1000 + x.strand(4, 1) * 100 + x.strand(4, 2) * 10 + x.strand(4, 3), 11);
        due.is("three of 0", x.frees(0, 1), 3);
    }

    private static void quietIn() {
        KittenStairs x = new KittenStairs();
        due.is("without kittens", x.quietIn(), 0);
        x.kitten(5);
        x.kitten(5);
        due.is("awake, nothing planned", x.quietIn(), 0);
        x.pass(7);
        due.is("still", x.quietIn(), 0);
        x.plan(3, 0, 1);
        due.is("a leap", x.quietIn(), 3);
        x.nap(1);
        due.is("a nap", x.quietIn(), 5);
        x.plan(99, 0, -15);
        due.is("a leap that will be refused", x.quietIn(), 99);
        due.is("no change is recorded", x.count(16), 6);
        x.pass(98);
        due.is("one turn", x.quietIn(), 1);
        x.pass(1);
        due.is("over", x.quietIn(), 0);
    }

    private static void stepIn() {
        KittenStairs x = new KittenStairs();
        x.kitten(4);
        x.kitten(9);
        x.plan(2, 0, 3);
        x.plan(3, 0, 3);
        x.plan(4, 0, 3);
        x.plan(7, 0, -5);
        due.is("behind 1", x.stepIn(0, 1), 4);
        due.is("behind 2", x.stepIn(0, 2), 7);
        due.is("behind 3", x.stepIn(0, 3), 10);
        due.is("behind 4: too little vim", x.stepIn(0, 4), 10);
        due.is("behind 6", x.stepIn(0, 6), 10);
        due.is("behind 7", x.stepIn(0, 7), 5);
        due.is("behind 99", x.stepIn(0, 99), 5);
        due.is("another one", x.stepIn(1, 99), 9);
        due.is("nothing changed", x.of(0, 0) + x.count(0) + x.count(8) + x.count(9), 4);
        due.is("nothing is over", x.count(10), 4);
        due.is("no change is recorded", x.count(16), 6);
        due.is("stepIn(2, 1)", x.stepIn(2, 1), NO_SUCH);
        due.is("stepIn(-1, 0)", x.stepIn(-1, 0), NO_SUCH);
        due.is("stepIn(0, 0)", x.stepIn(0, 0), BAD_VALUE);
        due.is("stepIn(0, 100)", x.stepIn(0, 100), BAD_VALUE);
        due.is("stepIn(0, -1)", x.stepIn(0, -1), BAD_VALUE);
    }

    private static void thickest() {
        KittenStairs x = roomy(0, 0);
        due.is("no strand", x.thickest(), NONE);
        x.leap(0, 8);
        due.is("of several the lowest one", x.thickest(), 0);
        x.leap(0, -3);
        due.is("still", x.thickest(), 0);
        x.leap(0, -5);
        due.is("no strand again", x.thickest(), NONE);
        x.leap(0, 8);
        x.leap(0, 7);
        x.snip(0, 0);
        due.is("the lowest one with any", x.thickest(), 1);
        KittenStairs y = roomy(13, 12);
        y.leap(0, 2);
        y.leap(1, 3);
        due.is("two strands at 13 and at 14", y.thickest(), 13);
        y.leap(0, -1);
        due.is("three at 14", y.thickest(), 14);
        due.is("no change is recorded", y.count(16), 6);
    }
}
