/** Promises 15 to 20: why, ifLeapt, frees, quietIn, stepIn, thickest. (TermsTest has each reason of a refusal.) */
public final class WhatIfTest {
    private static final int NO_SUCH = -1, BAD_VALUE = -2, NOT_POSSIBLE = -5, NONE = -6;
    private static final int LEAST = Integer.MIN_VALUE, MOST = Integer.MAX_VALUE;
    private static final Due due = new Due();

    public static void main(String[] args) {
        whyReason();
        whyErrors();
        whyEachBy();
        ifLeaptYarn();
        ifLeaptBound();
        ifLeaptFreed();
        ifLeaptErrors();
        ifLeaptRefused();
        ifLeaptIsNoLeap();
        freesAtOneEdge();
        freesAtAllEdges();
        freesOneAlone();
        freesErrors();
        quietNow();
        quietInNaps();
        quietInPlans();
        stepInTurns();
        stepInNaps();
        stepInOthers();
        stepInErrors();
        stepInEachNumber();
        stepInIsNoPass();
        thickestEdge();
        thickestOfSeveral();
        thickestNone();
        due.end();
    }

    private static void whyReason() {
        due.sentence("Returns the reason, 1 to 6, or 0: it would be made");
        KittenStairs x = Scenes.plain(8, 8);
        due.is("made", x.why(0, 3), 0);
        due.is("off the stairs", x.why(0, 8), 2);
        due.is("too far", x.why(0, 7), 3);
        x.leap(0, 3);
        x.leap(0, 3);
        due.is("too little vim", x.why(0, 1) * 10 + x.why(0, -3), 4);
        x.nap(0);
        due.is("napping", x.why(0, 1), 1);
        x = Scenes.laid(6, "010");
        x.set(KittenStairs.BIND, 2);
        due.is("bound", x.why(0, -2), 5);
        x = Scenes.shortBalls(0);
        x.pass(60);
        due.is("without yarn", x.why(0, 1), 6);
        x = Scenes.plain(8);
        for (int by = -15; by <= 15; by++) {
            if (by == 0) continue;
            boolean made = x.why(0, by) == 0;
            due.is("leap by " + by, x.leap(0, by), made ? 8 + by : NOT_POSSIBLE);
            if (made) x.undo();
        }
    }

    private static void whyErrors() {
        due.sentence("NO_SUCH if there is no such kitten; BAD_VALUE if by is out of range.");
        KittenStairs x = Scenes.plain(8);
        for (int k : new int[] {-1, 1, 6, LEAST, MOST}) due.is("why(" + k + ", 1)", x.why(k, 1), NO_SUCH);
        for (int by : new int[] {0, 16, -16, LEAST, LEAST + 1, MOST}) due.is("why(0, " + by + ")", x.why(0, by), BAD_VALUE);
        due.is("15 is in range", x.why(0, 15), 2);
        due.is("-15 is in range", x.why(0, -15), 2);
    }

    private static void whyEachBy() {
        due.sentence("by: -15 to 15, not 0");
        for (int by = -20; by <= 20; by++) {
            boolean inRange = by >= -15 && by <= 15 && by != 0;
            KittenStairs x = Scenes.roomy(0, 15);
            due.is("why from 0 by " + by, x.why(0, by), !inRange ? BAD_VALUE : by < 0 ? 2 : by <= 8 ? 0 : 3);
            due.is("why from 15 by " + by, x.why(1, by), !inRange ? BAD_VALUE : by > 0 ? 2 : 0);
            int laid = x.ifLeapt(0, by, 0);
            due.is("ifLeapt from 0 by " + by, laid, !inRange ? BAD_VALUE : by >= 1 && by <= 8 ? by : NOT_POSSIBLE);
            laid = x.ifLeapt(1, by, 0);
            due.is("ifLeapt from 15 by " + by, laid, !inRange ? BAD_VALUE : by < 0 ? -by : NOT_POSSIBLE);
        }
    }

    private static void ifLeaptYarn() {
        due.sentence("0 lengths laid, 1 wound back");
        KittenStairs x = Scenes.laid(6, "01");
        due.is("0 lays", x.ifLeapt(0, -3, 0), 3);
        due.is("0 winds back", x.ifLeapt(0, -3, 1), 0);
        due.is("1 lays", x.ifLeapt(1, -3, 0), 2);
        due.is("1 winds back", x.ifLeapt(1, -3, 1), 1);
        x.leap(1, -1);
        due.is("not what was wound before", x.ifLeapt(0, -2, 1), 1);
        x.leap(1, 1);
        due.is("of 1, too", x.ifLeapt(1, -3, 1), 1);
        due.is("not what was laid before", x.ifLeapt(1, -3, 0), 2);
        x = Scenes.roomy(0);
        x.leap(0, 8);
        due.is("all is wound back", x.ifLeapt(0, -8, 1), 8);
        due.is("nothing is laid", x.ifLeapt(0, -8, 0), 0);
        x = Scenes.roomy(15);
        due.is("15 at most", x.ifLeapt(0, -15, 0), 15);
    }

    private static void ifLeaptBound() {
        due.sentence("2 kittens to which it would be bound then and is not now");
        KittenStairs x = Scenes.laid(6, "01");
        due.is("0 would be bound to 1", x.ifLeapt(0, -3, 2), 0b10);
        due.is("1 would be bound to none", x.ifLeapt(1, -3, 2), 0);
        x = Scenes.laid(6, "0210");
        due.is("1 would be bound to 2 and is to 0", x.ifLeapt(2, -1, 2), 0b010);
        due.is("0 is bound to both, and would be at more edges", x.ifLeapt(0, -3, 2), 0);
        x = Scenes.laid(0, "2012");
        due.is("none by a leap away", x.ifLeapt(0, 8, 2), 0);
        x = Scenes.laid(6, "012");
        due.is("0 would be bound to both", x.ifLeapt(0, -1, 2), 0b110);
    }

    private static void ifLeaptFreed() {
        due.sentence("3 those to which it is and would not be, as sets");
        KittenStairs x = Scenes.laid(6, "0210");
        due.is("0 would be free of both", x.ifLeapt(0, 1, 3), 0b110);
        due.is("0 would be bound to none", x.ifLeapt(0, 1, 2), 0);
        due.is("2 stays bound to 0", x.ifLeapt(2, -1, 3), 0);
        x = Scenes.laid(6, "01020");
        due.is("the upper one alone", x.ifLeapt(0, -1, 3), 0b100);
        // At two edges: one that is freed at one of them is bound still.
        x = Scenes.roomy(0, 0);
        x.leap(0, 2);
        x.leap(1, 2);
        x.leap(0, -2);
        due.is("still bound at edge 1", x.ifLeapt(0, 1, 3), 0);
        due.is("free at both", x.ifLeapt(0, 2, 3), 0b10);
        due.is("one that is free is not freed", Scenes.laid(6, "01").ifLeapt(1, -1, 3), 0);
    }

    private static void ifLeaptErrors() {
        due.sentence("NO_SUCH if there is no such kitten; BAD_VALUE if by or what is out of range");
        KittenStairs x = Scenes.roomy(8);
        for (int k : new int[] {-1, 1, 6, LEAST, MOST}) due.is("ifLeapt(" + k + ", 1, 0)", x.ifLeapt(k, 1, 0), NO_SUCH);
        for (int by : new int[] {0, 16, -16, LEAST, LEAST + 1, MOST}) due.is("by " + by, x.ifLeapt(0, by, 0), BAD_VALUE);
        for (int what : new int[] {-1, 4, 5, LEAST, MOST}) due.is("what " + what, x.ifLeapt(0, 1, what), BAD_VALUE);
        for (int what = 0; what <= 3; what++) due.is("what " + what, x.ifLeapt(0, 1, what), what == 0 ? 1 : 0);
    }

    private static void ifLeaptRefused() {
        due.sentence("NOT_POSSIBLE if it would be refused.");
        KittenStairs x = Scenes.plain(8);
        for (int what = 0; what <= 3; what++) {
            due.is("too far", x.ifLeapt(0, 4, what), NOT_POSSIBLE);
            due.is("off the stairs", x.ifLeapt(0, 15, what), NOT_POSSIBLE);
            due.is("off the stairs below", x.ifLeapt(0, -15, what), NOT_POSSIBLE);
        }
        x.nap(0);
        due.is("napping", x.ifLeapt(0, 1, 0), NOT_POSSIBLE);
        x = Scenes.plain(8);
        x.leap(0, 3);
        x.leap(0, 3);
        due.is("too little vim", x.ifLeapt(0, -3, 1), NOT_POSSIBLE);
        x = Scenes.laid(6, "010");
        x.set(KittenStairs.BIND, 2);
        due.is("bound", x.ifLeapt(0, -2, 0), NOT_POSSIBLE);
        x = Scenes.shortBalls(0);
        x.pass(60);
        due.is("without yarn", x.ifLeapt(0, 1, 0), NOT_POSSIBLE);
    }

    private static void ifLeaptIsNoLeap() {
        due.sentence("Tells what a leap would do.");
        KittenStairs x = Scenes.laid(6, "010");
        String before = Snapshot.whole(x);
        for (int what = 0; what <= 3; what++) x.ifLeapt(0, 3, what);
        due.holds("nothing changes", Snapshot.whole(x).equals(before));
        due.is("told one after the other", x.ifLeapt(0, 3, 1) + x.ifLeapt(1, -3, 1) + x.ifLeapt(0, 3, 1), 2);
    }

    private static void freesAtOneEdge() {
        due.sentence("Tells how few strands of both would have to be gone");
        String[] orders = {"", "0", "01", "010", "101", "0101", "01010", "010101", "0101010", "02120", "0210", "2021201"};
        int[] fewest = {0, 0, 0, 1, 1, 1, 2, 2, 3, 1, 1, 1};
        for (int i = 0; i < orders.length; i++) {
            for (int edge : new int[] {0, 9, 14}) {
                KittenStairs x = Scenes.laid(edge, orders[i]);
                due.is("frees(0, 1) by " + orders[i] + " at " + edge, x.frees(0, 1), fewest[i]);
                due.is("frees(1, 0) by " + orders[i] + " at " + edge, x.frees(1, 0), fewest[i]);
            }
        }
        due.is("40 of each, by turns", Scenes.shortBalls(0).frees(0, 1), 39);
    }

    private static void freesAtAllEdges() {
        due.sentence("at all edges together");
        KittenStairs x = Scenes.roomy(0, 0);
        x.leap(0, 3);
        x.leap(1, 3);
        x.leap(0, -3);
        due.is("one at each of three edges", x.frees(0, 1), 3);
        x.leap(1, -3);
        due.is("0101 at each", x.frees(0, 1), 3);
        x.leap(0, 1);
        due.is("01010 at one", x.frees(0, 1), 4);
        x = Scenes.roomy(15, 15);
        x.leap(0, -15);
        x.leap(1, -15);
        x.leap(0, 8);
        x.leap(0, 7);
        due.is("one at each of fifteen edges", x.frees(0, 1), 15);
        x.snip(0, 1);
        x.snip(14, 0);
        due.is("thirteen are left", x.frees(1, 0), 13);
    }

    private static void freesOneAlone() {
        due.sentence("so that two kittens are not bound");
        // 0 0 1 0 0: it is dearer to part the four of 0 than to let the one of 1 go.
        KittenStairs x = Scenes.laid(4, "020201020");
        x.snip(4, 2);
        due.is("strands", x.ofEdge(4, 0), 6);
        due.is("the one between", x.frees(0, 1), 1);
        due.is("bound", x.bound(0, 1), 1 << 4);
        x = Scenes.laid(4, "02012102021210");
        x.snip(4, 2);
        due.is("0 0 1 1 0 0 1 1 0", x.ofEdge(4, 0), 9);
        due.is("lowest four", x.strand(4, 0) * 1000 + x.strand(4, 1) * 100 + x.strand(4, 2) * 10 + x.strand(4, 3), 11);
        due.is("three of 0", x.frees(0, 1), 3);
        // When all of the fewer are gone, the others may lie as they do.
        x = Scenes.laid(4, "021020");
        due.is("1 lies once between three of 0", x.frees(0, 1), 1);
        x.snip(4, 1);
        due.is("gone", x.frees(0, 1), 0);
        due.is("of a third one nothing has to go", Scenes.laid(4, "02120").frees(0, 1), 1);
        due.is("kittens without strands", x.frees(1, 2), 0);
    }

    private static void freesErrors() {
        due.sentence("NO_SUCH if there is no such kitten; BAD_VALUE if both are the same.");
        KittenStairs x = Scenes.laid(9, "010");
        for (int k : new int[] {-1, 3, 6, LEAST, MOST}) {
            due.is("frees(0, " + k + ")", x.frees(0, k), NO_SUCH);
            due.is("frees(" + k + ", 0)", x.frees(k, 0), NO_SUCH);
            due.is("frees(" + k + ", " + k + ")", x.frees(k, k), NO_SUCH);
        }
        for (int k = 0; k < 3; k++) due.is("frees(" + k + ", " + k + ")", x.frees(k, k), BAD_VALUE);
        due.is("nothing changed", x.ofEdge(9, 0), 3);
    }

    private static void quietNow() {
        due.sentence("Returns how many (0 if it is so now).");
        KittenStairs x = new KittenStairs();
        due.is("without kittens", x.quietIn(), 0);
        x.pass(99);
        x.kitten(5);
        due.is("awake, nothing planned", x.quietIn(), 0);
        x.nap(0);
        x.pass(5);
        due.is("awake again", x.quietIn(), 0);
        x.plan(1, 0, 1);
        x.pass(1);
        due.is("leapt", x.quietIn(), 0);
    }

    private static void quietInNaps() {
        due.sentence("no kitten naps");
        KittenStairs x = Scenes.plain(5, 5);
        x.pass(7);
        x.nap(1);
        due.is("a nap", x.quietIn(), 5);
        x.set(KittenStairs.NAP, 30);
        x.pass(1);
        due.is("a turn of it is over", x.quietIn(), 4);
        x.nap(0);
        due.is("a longer one of an earlier kitten", x.quietIn(), 30);
        x.pass(29);
        due.is("one turn", x.quietIn(), 1);
        x.pass(1);
        due.is("over", x.quietIn(), 0);
        x.nap(0);
        x.plan(29, 1, 1);
        due.is("a nap that is longer than a plan", x.quietIn(), 30);
    }

    private static void quietInPlans() {
        due.sentence("Tells in how many turns all planned leaps are over");
        KittenStairs x = Scenes.plain(5, 5);
        x.plan(3, 0, 1);
        due.is("a leap", x.quietIn(), 3);
        x.plan(99, 0, -15);
        due.is("a leap that will be refused", x.quietIn(), 99);
        x.nap(1);
        x.plan(50, 1, 1);
        due.is("the latest one", x.quietIn(), 99);
        x.pass(98);
        due.is("one turn", x.quietIn(), 1);
        x.pass(1);
        due.is("over", x.quietIn(), 0);
        x.nap(0);
        x.plan(6, 0, 1);
        due.is("a plan that is later than a nap", x.quietIn(), 6);
    }

    private static void stepInTurns() {
        due.sentence("Tells where a kitten would be behind some turns, if nothing else is done.");
        KittenStairs x = Scenes.plain(4, 9);
        x.plan(2, 0, 3);
        x.plan(3, 0, 3);
        x.plan(4, 0, 3);
        x.plan(7, 0, -5);
        x.plan(99, 1, 1);
        int[] steps = {4, 7, 10, 10, 10, 10, 5, 5};
        for (int turns = 1; turns <= 8; turns++) due.is("behind " + turns, x.stepIn(0, turns), steps[turns - 1]);
        due.is("behind 99", x.stepIn(0, 99), 5);
        due.is("another one behind 98", x.stepIn(1, 98), 9);
        due.is("another one behind 99", x.stepIn(1, 99), 10);
        x.pass(2);
        due.is("two turns later", x.stepIn(0, 1), 10);
        due.is("of the other one", x.stepIn(1, 97), 10);
        due.is("of the other one, ahead of it", x.stepIn(1, 96), 9);
    }

    private static void stepInNaps() {
        due.sentence("Tells where a kitten would be behind some turns");
        KittenStairs x = Scenes.plain(4);
        x.leap(0, 3);
        x.leap(0, 3);
        x.nap(0);
        x.plan(4, 0, -1);
        x.plan(5, 0, -6);
        due.is("asleep", x.stepIn(0, 4), 10);
        due.is("awake, with VIM vim", x.stepIn(0, 5), 4);
        due.is("it naps still", x.of(0, 2), 5);
    }

    private static void stepInOthers() {
        due.sentence("Tells where a kitten would be behind some turns");
        // 1 leaps ahead of 0, which would be too far from it otherwise.
        KittenStairs x = Scenes.laid(6, "010");
        x.set(KittenStairs.BIND, 2);
        x.plan(2, 0, 4);
        due.is("held back", x.stepIn(0, 2), 6);
        x.plan(1, 1, 1);
        due.is("1 leaps", x.stepIn(1, 1), 8);
        due.is("0 is not held back then", x.stepIn(0, 2), 10);
        due.is("behind a turn", x.stepIn(0, 1), 6);
        due.is("as it comes to be", x.pass(2) == 2 ? x.of(0, 0) : -9, 10);
    }

    private static void stepInErrors() {
        due.sentence("NO_SUCH if there is no such kitten; BAD_VALUE if turns is out of range.");
        KittenStairs x = Scenes.plain(4, 9);
        for (int k : new int[] {-1, 2, 6, LEAST, MOST}) due.is("stepIn(" + k + ", 1)", x.stepIn(k, 1), NO_SUCH);
        for (int turns : new int[] {-1, 0, 100, LEAST, MOST}) due.is("in " + turns, x.stepIn(0, turns), BAD_VALUE);
        due.is("in 1", x.stepIn(1, 1), 9);
        due.is("in 99", x.stepIn(1, 99), 9);
    }

    private static void stepInEachNumber() {
        due.sentence("turns: 1 to 99");
        KittenStairs x = Scenes.plain(4);
        x.plan(1, 0, 1);
        x.plan(50, 0, 1);
        x.plan(99, 0, 1);
        for (int turns = -3; turns <= 103; turns++) {
            int step = turns == 99 ? 7 : turns >= 50 ? 6 : 5;
            due.is("stepIn(0, " + turns + ")", x.stepIn(0, turns), turns >= 1 && turns <= 99 ? step : BAD_VALUE);
        }
    }

    private static void stepInIsNoPass() {
        due.sentence("what if; nothing changes");
        KittenStairs x = Scenes.plain(4, 9);
        x.plan(2, 0, 3);
        x.plan(2, 1, 9);
        x.nap(1);
        String before = Snapshot.whole(x);
        due.is("step", x.stepIn(0, 99), 7);
        due.is("quiet", x.quietIn(), 5);
        due.holds("all is as it was", Snapshot.whole(x).equals(before));
    }

    private static void thickestEdge() {
        due.sentence("Finds the edge with the most strands");
        for (int edge = 0; edge <= 14; edge++) due.is("alone", Scenes.laid(edge, "0").thickest(), edge);
        KittenStairs x = Scenes.roomy(13, 12);
        x.leap(0, 2);
        x.leap(1, 3);
        x.leap(0, -1);
        due.is("three at 14, two at 13, one at 12", x.thickest(), 14);
        x.snip(14, 0);
        due.is("one at 14, two at 13", x.thickest(), 13);
    }

    private static void thickestOfSeveral() {
        due.sentence("of several the lowest one");
        KittenStairs x = Scenes.roomy(0, 14);
        x.leap(0, 8);
        due.is("one at each of eight", x.thickest(), 0);
        x.leap(1, 1);
        x.snip(0, 0);
        due.is("one at each from 1 on", x.thickest(), 1);
        x = Scenes.roomy(13, 12);
        x.leap(0, 2);
        x.leap(1, 3);
        due.is("two at 13 and at 14, one at 12", x.thickest(), 13);
    }

    private static void thickestNone() {
        due.sentence("NONE if no strand lies.");
        KittenStairs x = Scenes.roomy(0);
        due.is("at first", x.thickest(), NONE);
        x.leap(0, 5);
        due.is("some", x.thickest(), 0);
        x.leap(0, -5);
        due.is("all wound back", x.thickest(), NONE);
        x.leap(0, 1);
        x.snip(0, 0);
        due.is("all snipped", x.thickest(), NONE);
    }
}
