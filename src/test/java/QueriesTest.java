/** Promises 9 to 14: of, ofEdge, strand, bound, planned, count. */
public final class QueriesTest {
    private static final int NO_SUCH = -1, BAD_VALUE = -2, NONE = -6;
    private static final Due due = new Due();

    public static void main(String[] args) {
        of();
        ofReach();
        ofEdge();
        strand();
        bound();
        boundOrders();
        planned();
        count();
        due.end();
    }

    private static KittenStairs roomy(int... steps) {
        KittenStairs x = new KittenStairs();
        x.set(KittenStairs.VIM, 60);
        x.set(KittenStairs.LEAP, 8);
        x.set(KittenStairs.BIND, 15);
        for (int step : steps) x.kitten(step);
        return x;
    }

    /** Lays strands at the edge above a step, lowest first, by kittens that all are on that step at first. */
    private static KittenStairs laid(int step, String kittens) {
        KittenStairs x = roomy(step, step, step);
        boolean[] above = new boolean[3];
        for (char sign : kittens.toCharArray()) {
            int k = sign - '0';
            x.leap(k, above[k] ? -1 : 1);
            above[k] = !above[k];
        }
        return x;
    }

    private static void of() {
        KittenStairs x = roomy(2, 6, 9);
        x.leap(0, 5);
        x.leap(0, -1);
        x.leap(1, 1);
        x.leap(0, 1);
        x.snip(3, 0);
        x.nap(1);
        due.is("step", x.of(0, 0), 7);
        due.is("vim", x.of(0, 1), 60 - 10 - 1 - 2);
        due.is("awake", x.of(0, 2), NONE);
        due.is("wakes up", x.of(1, 2), 5);
        due.is("ball", x.of(0, 3), 35);
        due.is("strands that lie", x.of(0, 4), 4);
        due.is("laid", x.of(0, 5), 6);
        due.is("wound back", x.of(0, 6), 1);
        due.is("snipped", x.of(0, 7), 1);
        due.is("bound to none", x.of(0, 8), 0);
        due.is("a kitten's own", x.of(1, 5), 1);
        due.is("of(3, 0)", x.of(3, 0), NO_SUCH);
        due.is("of(-1, 0)", x.of(-1, 0), NO_SUCH);
        due.is("of(3, 10)", x.of(3, 10), NO_SUCH);
        due.is("of(0, -1)", x.of(0, -1), BAD_VALUE);
        due.is("of(0, 10)", x.of(0, 10), BAD_VALUE);
        due.is("of(0, most)", x.of(0, Integer.MAX_VALUE), BAD_VALUE);
        due.is("what there is is no change", x.count(16), 6);
        x = laid(4, "010212");
        due.is("0 is bound to 1", x.of(0, 8), 2);
        due.is("1 is bound to 0 and 2", x.of(1, 8), 5);
        due.is("2 is bound to 1", x.of(2, 8), 2);
    }

    private static void ofReach() {
        KittenStairs x = new KittenStairs();
        x.kitten(8);
        due.is("6 down, 3 up", x.of(0, 9), 0b0000_1110_1111_1100);
        x.nap(0);
        due.is("napping", x.of(0, 9), 0);
        x = new KittenStairs();
        x.kitten(0);
        due.is("the lowest step", x.of(0, 9), 0b1110);
        x.kitten(15);
        due.is("the highest step", x.of(1, 9), 0b0111_1110_0000_0000);
        x.set(KittenStairs.VIM, 2);
        x.kitten(8);
        due.is("2 vim", x.of(2, 9), 0b10_1100_0000);
        x = laid(4, "010");
        x.set(KittenStairs.BIND, 1);
        // 0 is on step 4 again, 1 on step 5: 0 may come to steps 4 to 6.
        due.is("held back", x.of(0, 9), 0b110_0000);
        due.is("the other", x.of(1, 9), 0b1_1000);
        due.is("one that is free", x.of(2, 9), 0b0001_1111_1110_1111);
    }

    private static void ofEdge() {
        KittenStairs x = laid(14, "0102");
        due.is("strands", x.ofEdge(14, 0), 4);
        due.is("on top", x.ofEdge(14, 1), 2);
        due.is("kittens", x.ofEdge(14, 2), 0b111);
        due.is("pairs", x.ofEdge(14, 3), 1);
        due.is("no strands", x.ofEdge(0, 0), 0);
        due.is("none on top", x.ofEdge(0, 1), NONE);
        due.is("no kittens", x.ofEdge(0, 2), 0);
        due.is("no pairs", x.ofEdge(0, 3), 0);
        due.is("ofEdge(-1, 0)", x.ofEdge(-1, 0), NO_SUCH);
        due.is("ofEdge(15, 0)", x.ofEdge(15, 0), NO_SUCH);
        due.is("ofEdge(15, 4)", x.ofEdge(15, 4), NO_SUCH);
        due.is("ofEdge(0, -1)", x.ofEdge(0, -1), BAD_VALUE);
        due.is("ofEdge(0, 4)", x.ofEdge(0, 4), BAD_VALUE);
        due.is("kittens with one strand each", laid(14, "01").ofEdge(14, 2), 0b11);
        due.is("all three pairs", laid(3, "012012").ofEdge(3, 3), 3);
        due.is("one pair is free", laid(3, "010121").ofEdge(3, 3), 2);
    }

    private static void strand() {
        KittenStairs x = laid(0, "2101");
        due.is("rank 0", x.strand(0, 0), 2);
        due.is("rank 1", x.strand(0, 1), 1);
        due.is("rank 2", x.strand(0, 2), 0);
        due.is("rank 3", x.strand(0, 3), 1);
        due.is("rank 4", x.strand(0, 4), NO_SUCH);
        due.is("rank -1", x.strand(0, -1), NO_SUCH);
        due.is("least rank", x.strand(0, Integer.MIN_VALUE), NO_SUCH);
        due.is("another edge", x.strand(1, 0), NO_SUCH);
        due.is("strand(-1, 0)", x.strand(-1, 0), NO_SUCH);
        due.is("strand(15, 0)", x.strand(15, 0), NO_SUCH);
        x = roomy(0, 0);
        x.leap(0, 3);
        x.leap(1, 3);
        for (int edge = 0; edge < 3; edge++) {
            due.is("below", x.strand(edge, 0), 0);
            due.is("above", x.strand(edge, 1), 1);
        }
    }

    private static void bound() {
        KittenStairs x = roomy(0, 0, 5);
        x.leap(0, 2);
        x.leap(1, 2);
        due.is("one over the other", x.bound(0, 1), 0);
        x.leap(0, -2);
        due.is("at both edges", x.bound(0, 1), 0b11);
        due.is("the other way round", x.bound(1, 0), 0b11);
        x.leap(0, 1);
        due.is("wound at edge 0", x.bound(0, 1), 0b10);
        due.is("not with 2", x.bound(0, 2), 0);
        due.is("bound(0, 0)", x.bound(0, 0), BAD_VALUE);
        due.is("bound(0, 3)", x.bound(0, 3), NO_SUCH);
        due.is("bound(3, 0)", x.bound(3, 0), NO_SUCH);
        due.is("bound(3, 3)", x.bound(3, 3), NO_SUCH);
        due.is("bound(-1, 0)", x.bound(-1, 0), NO_SUCH);
        due.is("bound(0, -1)", x.bound(0, -1), NO_SUCH);
    }

    private static void boundOrders() {
        String[] free = {"0", "01", "021", "0201", "0212", "1202"};
        for (String order : free) {
            due.is("bound by " + order, laid(14, order).bound(0, 1), 0);
            due.is("bound at the lowest edge by " + order, laid(0, order).bound(0, 1), 0);
            due.is("the other way round by " + order, laid(0, order).bound(1, 0), 0);
        }
        String[] held = {"010", "101", "0210", "02120", "1021", "0101", "20102"};
        for (String order : held) {
            due.is("bound by " + order, laid(14, order).bound(0, 1), 1 << 14);
            due.is("bound at the lowest edge by " + order, laid(0, order).bound(0, 1), 1);
            due.is("the other way round by " + order, laid(0, order).bound(1, 0), 1);
        }
        // Only its own strands lie next to one another when the other's are snipped.
        KittenStairs x = laid(7, "0101210");
        due.is("bound to 0 and 2", x.of(1, 8), 0b101);
        x.snip(7, 2);
        due.is("still bound to 0", x.bound(1, 0), 1 << 7);
        x.snip(7, 0);
        due.is("free", x.of(1, 8), 0);
        due.is("two lie", x.ofEdge(7, 0), 3);
    }

    private static void planned() {
        KittenStairs x = roomy(3, 3, 3);
        x.pass(10);
        x.plan(5, 1, 1);
        x.plan(3, 2, -2);
        x.plan(5, 0, 3);
        x.plan(5, 1, -15);
        x.plan(3, 0, 15);
        x.plan(5, 1, 4);
        int[][] order = {{13, 0, 115}, {13, 2, 98}, {15, 0, 103}, {15, 1, 101}, {15, 1, 85}, {15, 1, 104}};
        for (int rank = 0; rank < order.length; rank++) {
            for (int what = 0; what < 3; what++) due.is("planned " + rank, x.planned(rank, what), order[rank][what]);
        }
        due.is("planned(6, 0)", x.planned(6, 0), NO_SUCH);
        due.is("planned(-1, 0)", x.planned(-1, 0), NO_SUCH);
        due.is("planned(6, 3)", x.planned(6, 3), NO_SUCH);
        due.is("planned(0, 3)", x.planned(0, 3), BAD_VALUE);
        due.is("planned(0, -1)", x.planned(0, -1), BAD_VALUE);
        x.pass(3);
        due.is("the first one then", x.planned(0, 0), 15);
        due.is("no more than four", x.planned(4, 0), NO_SUCH);
    }

    private static void count() {
        KittenStairs x = roomy(2, 2, 2);
        x.leap(0, 2);
        x.leap(1, 2);
        x.leap(0, -2);
        x.leap(0, 1);
        x.snip(3, 1);
        x.nap(2);
        x.plan(1, 2, 1);
        x.plan(2, 1, 1);
        x.plan(9, 1, 1);
        x.pass(3);
        Due.write(x, "k1");
        int[] all = {3, 3, 4, 5, 7, 1, 1, 0, 5, 1, 1, 8, 15, 5, 60, 2, 6};
        for (int what = 0; what < all.length; what++) due.is("count(" + what + ")", x.count(what), all[what]);
        due.is("count(-1)", x.count(-1), BAD_VALUE);
        due.is("count(17)", x.count(17), BAD_VALUE);
        due.is("pairs", laid(3, "012012").count(7), 3);
        due.is("pairs at the lowest edge", laid(0, "012012").count(7), 3);
        due.is("pairs at the highest edge", laid(14, "012012").count(7), 3);
        x.nap(0);
        due.is("0 and 2 nap", x.count(2), 0b101);
        due.is("a pair that is bound at two edges", twiceBound().count(7), 1);
    }

    private static KittenStairs twiceBound() {
        KittenStairs x = roomy(0, 0);
        x.leap(0, 2);
        x.leap(1, 2);
        x.leap(0, -2);
        return x;
    }
}
