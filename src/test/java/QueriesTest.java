/** Promises 9 to 14: of, ofEdge, strand, bound, planned, count. */
public final class QueriesTest {
    private static final int NO_SUCH = -1, BAD_VALUE = -2, NONE = -6;
    private static final int LEAST = Integer.MIN_VALUE, MOST = Integer.MAX_VALUE;
    private static final Due due = new Due();

    public static void main(String[] args) {
        ofKitten();
        ofWaking();
        ofStrands();
        ofBound();
        ofReach();
        ofReachAndWhy();
        ofErrors();
        ofEdgeStrands();
        ofEdgeTop();
        ofEdgeKittens();
        ofEdgePairs();
        ofEdgeErrors();
        strandRank();
        strandErrors();
        boundEdges();
        boundErrors();
        plannedOrder();
        plannedErrors();
        countTurnsAndKittens();
        countStrands();
        countPairs();
        countLeaps();
        countSettings();
        countPadAndHistory();
        countErrors();
        due.end();
    }

    private static void ofKitten() {
        due.sentence("0 its step, 1 its vim");
        KittenStairs x = Scenes.roomy(2, 0, 15);
        x.leap(0, 5);
        x.leap(0, -1);
        due.is("step", x.of(0, 0), 6);
        due.is("vim", x.of(0, 1), 60 - 10 - 1);
        due.is("ball", x.of(0, 3), 40 - 5 + 1);
        due.is("the lowest step", x.of(1, 0), 0);
        due.is("the highest step", x.of(2, 0), 15);
        due.is("another one's vim", x.of(1, 1), 60);
        due.is("another one's ball", x.of(2, 3), 40);
    }

    private static void ofWaking() {
        due.sentence("2 the turn in which it wakes up (NONE if it is awake)");
        KittenStairs x = Scenes.plain(5, 5);
        due.is("awake at first", x.of(0, 2), NONE);
        x.pass(2);
        x.nap(0);
        due.is("napping", x.of(0, 2), 7);
        due.is("the other one", x.of(1, 2), NONE);
        x.pass(4);
        due.is("in its last turn", x.of(0, 2), 7);
        x.pass(1);
        due.is("awake again", x.of(0, 2), NONE);
    }

    private static void ofStrands() {
        due.sentence("4 its strands that lie, 5 lengths laid, 6 wound back, 7 snipped so far");
        KittenStairs x = Scenes.roomy(2, 6, 9);
        x.leap(0, 5);
        x.leap(0, -1);
        x.leap(1, 1);
        x.leap(0, 1);
        x.snip(3, 0);
        int[] of0 = {4, 6, 1, 1};
        int[] of1 = {1, 1, 0, 0};
        for (int i = 0; i < 4; i++) {
            due.is("of(0, " + (4 + i) + ")", x.of(0, 4 + i), of0[i]);
            due.is("of(1, " + (4 + i) + ")", x.of(1, 4 + i), of1[i]);
            due.is("of(2, " + (4 + i) + ")", x.of(2, 4 + i), 0);
        }
        due.is("laid are those that lie, were wound back and snipped", x.of(0, 4) + x.of(0, 6) + x.of(0, 7), x.of(0, 5));
        x.undo();
        due.is("not so far, when it is undone", x.of(0, 7), 0);
    }

    private static void ofBound() {
        due.sentence("8 kittens to which it is bound, as a set");
        KittenStairs x = Scenes.laid(4, "01");
        for (int k = 0; k < 3; k++) due.is("bound to none", x.of(k, 8), 0);
        x = Scenes.laid(4, "010212");
        due.is("0 is bound to 1", x.of(0, 8), 0b010);
        due.is("1 is bound to 0 and 2", x.of(1, 8), 0b101);
        due.is("2 is bound to 1", x.of(2, 8), 0b010);
        x = Scenes.laid(14, "012012");
        for (int k = 0; k < 3; k++) due.is("bound to both others", x.of(k, 8), 0b111 & ~(1 << k));
        x = Scenes.roomy(0, 0, 0, 0, 0, 0);
        x.leap(5, 1);
        for (int k = 0; k < 5; k++) x.leap(k, 1);
        x.leap(5, -1);
        due.is("the last one is bound to all", x.of(5, 8), 0b11111);
        due.is("each to the last one", x.of(0, 8) + x.of(4, 8), 2 << 5);
    }

    private static void ofReach() {
        due.sentence("9 the steps to which it could leap now, as a set");
        KittenStairs x = Scenes.plain(8);
        due.is("6 down, 3 up", x.of(0, 9), 0b0000_1110_1111_1100);
        x.nap(0);
        due.is("napping", x.of(0, 9), 0);
        x = Scenes.plain(0, 15);
        due.is("the lowest step", x.of(0, 9), 0b1110);
        due.is("the highest step", x.of(1, 9), 0b0111_1110_0000_0000);
        x.set(KittenStairs.VIM, 2);
        x.kitten(8);
        due.is("2 vim", x.of(2, 9), 0b10_1100_0000);
        due.is("from the highest step to all others", Scenes.roomy(15).of(0, 9), 0b0111_1111_1111_1111);
        x = Scenes.laid(4, "010");
        x.set(KittenStairs.BIND, 1);
        // 0 is on step 4 again, 1 on step 5: 0 may come to steps 4 to 6.
        due.is("held back", x.of(0, 9), 0b110_0000);
        due.is("the other one", x.of(1, 9), 0b1_1000);
        due.is("one that is free", x.of(2, 9), 0b0001_1111_1110_1111);
        x = Scenes.shortBalls(2);
        x.pass(60);
        due.is("two lengths", x.of(0, 9), 0b110);
        due.is("two, and one that is wound back", x.of(1, 9), 0b11110);
        x.leap(0, 2);
        due.is("nothing is left for an edge above", x.of(0, 9), 0b11);
    }

    private static void ofReachAndWhy() {
        due.sentence("9 the steps to which it could leap now, as a set");
        for (int step = 0; step <= 15; step++) {
            KittenStairs x = Scenes.plain(step);
            int reached = 0;
            for (int by = -15; by <= 15; by++) if (by != 0 && x.why(0, by) == 0) reached |= 1 << step + by;
            due.is("from " + step, x.of(0, 9), reached);
        }
    }

    private static void ofErrors() {
        due.sentence("NO_SUCH if there is no such kitten; BAD_VALUE if what is out of range.");
        KittenStairs x = Scenes.plain(5, 5);
        for (int k : new int[] {-1, 2, 5, 6, LEAST, MOST}) {
            for (int what = 0; what <= 9; what++) due.is("of(" + k + ", " + what + ")", x.of(k, what), NO_SUCH);
        }
        for (int what : new int[] {-1, 10, 16, LEAST, MOST}) due.is("of(1, " + what + ")", x.of(1, what), BAD_VALUE);
    }

    private static void ofEdgeStrands() {
        due.sentence("0 its strands");
        KittenStairs x = Scenes.laid(14, "0102");
        due.is("four", x.ofEdge(14, 0), 4);
        due.is("none beside it", x.ofEdge(13, 0), 0);
        due.is("none", x.ofEdge(0, 0), 0);
        due.is("80", Scenes.shortBalls(0).ofEdge(0, 0), 80);
    }

    private static void ofEdgeTop() {
        due.sentence("1 the kitten of the one on top (NONE)");
        due.is("2", Scenes.laid(14, "0102").ofEdge(14, 1), 2);
        due.is("0", Scenes.laid(0, "210").ofEdge(0, 1), 0);
        KittenStairs x = Scenes.laid(6, "01");
        due.is("1", x.ofEdge(6, 1), 1);
        x.snip(6, 1);
        due.is("0 when 1's is gone", x.ofEdge(6, 1), 0);
        x.snip(6, 0);
        due.is("none when all are gone", x.ofEdge(6, 1), NONE);
        for (int edge = 0; edge <= 14; edge++) due.is("none at first", new KittenStairs().ofEdge(edge, 1), NONE);
    }

    private static void ofEdgeKittens() {
        due.sentence("2 kittens with strands there, as a set");
        due.is("three", Scenes.laid(14, "0102").ofEdge(14, 2), 0b111);
        due.is("two with one each", Scenes.laid(14, "01").ofEdge(14, 2), 0b11);
        due.is("the last one, twice", Scenes.laid(0, "202").ofEdge(0, 2), 0b101);
        due.is("none", Scenes.laid(0, "22").ofEdge(0, 2), 0);
        due.is("none at another edge", Scenes.laid(7, "0102").ofEdge(6, 2), 0);
        KittenStairs x = Scenes.plain(3, 3, 3, 3, 3, 3);
        x.leap(5, 1);
        x.leap(4, -1);
        due.is("the sixth one", x.ofEdge(3, 2), 1 << 5);
        due.is("the fifth one, below", x.ofEdge(2, 2), 1 << 4);
    }

    private static void ofEdgePairs() {
        due.sentence("3 pairs that are bound there, how many");
        due.is("none", Scenes.laid(3, "012").ofEdge(3, 3), 0);
        due.is("one", Scenes.laid(14, "0102").ofEdge(14, 3), 1);
        due.is("two", Scenes.laid(3, "010121").ofEdge(3, 3), 2);
        due.is("three", Scenes.laid(0, "012012").ofEdge(0, 3), 3);
        due.is("not those at another edge", Scenes.laid(3, "012012").ofEdge(4, 3), 0);
        KittenStairs x = Scenes.roomy(0, 0, 0, 0, 0, 0);
        for (int k = 0; k < 6; k++) x.leap(k, 1);
        for (int k = 0; k < 6; k++) x.leap(k, -1);
        due.is("0 1 2 3 4 5 0 1 2 3 4 5", x.ofEdge(0, 0), 12);
        due.is("all of six", x.ofEdge(0, 3), 15);
        x.snip(0, 3);
        due.is("all of five", x.ofEdge(0, 3), 10);
    }

    private static void ofEdgeErrors() {
        due.sentence("NO_SUCH if there is no such edge; BAD_VALUE if what is out of range.");
        KittenStairs x = Scenes.plain(5);
        for (int edge : new int[] {-1, 15, 16, LEAST, MOST}) {
            for (int what = 0; what <= 3; what++) due.is("ofEdge(" + edge + ", " + what + ")", x.ofEdge(edge, what), NO_SUCH);
        }
        for (int what : new int[] {-1, 4, 10, LEAST, MOST}) {
            due.is("ofEdge(0, " + what + ")", x.ofEdge(0, what), BAD_VALUE);
            due.is("ofEdge(14, " + what + ")", x.ofEdge(14, what), BAD_VALUE);
        }
    }

    private static void strandRank() {
        due.sentence("0 for the lowest one");
        KittenStairs x = Scenes.laid(0, "2101");
        int[] order = {2, 1, 0, 1};
        for (int rank = 0; rank < 4; rank++) due.is("rank " + rank, x.strand(0, rank), order[rank]);
        x = Scenes.laid(14, "0201021");
        for (int rank = 0; rank < 7; rank++) due.is("rank " + rank, x.strand(14, rank), "0201021".charAt(rank) - '0');
        x = Scenes.roomy(0, 0);
        x.leap(0, 3);
        x.leap(1, 3);
        for (int edge = 0; edge < 3; edge++) {
            due.is("below", x.strand(edge, 0), 0);
            due.is("above", x.strand(edge, 1), 1);
        }
        x.snip(1, 0);
        due.is("the lowest one then", x.strand(1, 0), 1);
        due.is("another edge's", x.strand(2, 0), 0);
    }

    private static void strandErrors() {
        due.sentence("NO_SUCH if there is no such edge, or there are not so many.");
        KittenStairs x = Scenes.laid(14, "2101");
        due.is("the highest one", x.strand(14, 3), 1);
        for (int rank : new int[] {-1, 4, 5, 240, LEAST, MOST}) due.is("rank " + rank, x.strand(14, rank), NO_SUCH);
        for (int edge = 0; edge <= 13; edge++) due.is("another edge", x.strand(edge, 0), NO_SUCH);
        for (int edge : new int[] {-1, 15, LEAST, MOST}) due.is("strand(" + edge + ", 0)", x.strand(edge, 0), NO_SUCH);
    }

    private static void boundEdges() {
        due.sentence("Returns the edges, as a set (0 if they are not)");
        KittenStairs x = Scenes.roomy(0, 0, 5);
        due.is("without strands", x.bound(0, 1), 0);
        x.leap(0, 2);
        x.leap(1, 2);
        due.is("one over the other", x.bound(0, 1), 0);
        x.leap(0, -2);
        due.is("at both edges", x.bound(0, 1), 0b11);
        due.is("the other way round", x.bound(1, 0), 0b11);
        x.leap(0, 1);
        due.is("wound at edge 0", x.bound(0, 1), 0b10);
        due.is("not with 2", x.bound(0, 2), 0);
        // From one end of the stairs to the other one.
        x = Scenes.roomy(15, 15);
        x.leap(0, -15);
        x.leap(1, -15);
        x.leap(0, 8);
        x.leap(0, 7);
        due.is("at all edges", x.bound(0, 1), 0b0111_1111_1111_1111);
    }

    private static void boundErrors() {
        due.sentence("NO_SUCH if there is no such kitten; BAD_VALUE if both are the same.");
        KittenStairs x = Scenes.plain(5, 5, 5);
        for (int k : new int[] {-1, 3, 6, LEAST, MOST}) {
            due.is("bound(0, " + k + ")", x.bound(0, k), NO_SUCH);
            due.is("bound(" + k + ", 0)", x.bound(k, 0), NO_SUCH);
            due.is("bound(" + k + ", " + k + ")", x.bound(k, k), NO_SUCH);
        }
        for (int k = 0; k < 3; k++) due.is("bound(" + k + ", " + k + ")", x.bound(k, k), BAD_VALUE);
    }

    private static void plannedOrder() {
        due.sentence("by turn, of one turn by kittens, of one kitten in the order in which they were planned");
        KittenStairs x = Scenes.roomy(3, 3, 3);
        x.pass(10);
        x.plan(5, 1, 1);
        x.plan(3, 2, -2);
        x.plan(5, 0, 3);
        x.plan(5, 1, -15);
        x.plan(3, 0, 15);
        x.plan(5, 1, 4);
        int[][] order = {{13, 0, 115}, {13, 2, 98}, {15, 0, 103}, {15, 1, 101}, {15, 1, 85}, {15, 1, 104}};
        for (int rank = 0; rank < order.length; rank++) {
            for (int what = 0; what < 3; what++) due.is("planned " + rank, x.planned(rank, what), order[rank][what]);
        }
        x.pass(3);
        due.is("the first one then", x.planned(0, 0), 15);
        due.is("of 0", x.planned(0, 1), 0);
        due.is("the last one then", x.planned(3, 2), 104);
        // A turn that was planned for earlier, but in a later turn, is one turn still.
        x.plan(2, 1, 7);
        x.plan(1, 2, 6);
        int[][] later = {{14, 2, 106}, {15, 0, 103}, {15, 1, 101}, {15, 1, 85}, {15, 1, 104}, {15, 1, 107}};
        for (int rank = 0; rank < later.length; rank++) {
            for (int what = 0; what < 3; what++) due.is("then " + rank, x.planned(rank, what), later[rank][what]);
        }
        due.sentence("2 its steps and 100");
        x = Scenes.plain(5);
        x.plan(1, 0, -15);
        x.plan(1, 0, 15);
        x.plan(1, 0, -1);
        x.plan(1, 0, 1);
        int[] steps = {85, 115, 99, 101};
        for (int rank = 0; rank < 4; rank++) due.is("steps", x.planned(rank, 2), steps[rank]);
    }

    private static void plannedErrors() {
        due.sentence("NO_SUCH if there are not so many; BAD_VALUE if what is out of range.");
        KittenStairs x = Scenes.plain(5);
        for (int rank : new int[] {-1, 0, 1, LEAST, MOST}) due.is("none, rank " + rank, x.planned(rank, 0), NO_SUCH);
        for (int i = 1; i <= 16; i++) {
            x.plan(i, 0, 1);
            due.is("the last one", x.planned(i - 1, 0), i);
            due.is("not so many", x.planned(i, 0), NO_SUCH);
        }
        due.is("rank -1", x.planned(-1, 0), NO_SUCH);
        for (int what : new int[] {-1, 3, 4, LEAST, MOST}) due.is("planned(0, " + what + ")", x.planned(0, what), BAD_VALUE);
        x.pass(15);
        due.is("one is left", x.planned(0, 0), 16);
        due.is("one alone", x.planned(1, 0), NO_SUCH);
        x.pass(1);
        due.is("none is left", x.planned(0, 0), NO_SUCH);
    }

    private static void countTurnsAndKittens() {
        due.sentence("0 the turn, 1 kittens, 2 those that nap, as a set");
        KittenStairs x = new KittenStairs();
        x.pass(99);
        x.pass(1);
        due.is("turn", x.count(0), 100);
        for (int k = 0; k < 6; k++) x.kitten(5);
        due.is("kittens", x.count(1), 6);
        due.is("none nap", x.count(2), 0);
        int napping = 0;
        for (int k : new int[] {5, 0, 3, 1, 4, 2}) {
            x.nap(k);
            napping |= 1 << k;
            due.is("napping", x.count(2), napping);
        }
        x.pass(5);
        due.is("none nap", x.count(2), 0);
    }

    private static void countStrands() {
        due.sentence("3 strands that lie, 4 lengths laid, 5 wound back, 6 snipped so far");
        KittenStairs x = Scenes.roomy(2, 2, 2);
        x.leap(0, 2);
        x.leap(1, 2);
        x.leap(0, -2);
        x.leap(0, 1);
        x.snip(3, 1);
        int[] all = {4, 6, 1, 1};
        for (int i = 0; i < 4; i++) due.is("count(" + (3 + i) + ")", x.count(3 + i), all[i]);
        x.leap(2, 3);
        x.snip(4, 2);
        int[] then = {6, 9, 1, 2};
        for (int i = 0; i < 4; i++) due.is("then count(" + (3 + i) + ")", x.count(3 + i), then[i]);
        x = Scenes.plain(0, 0, 0, 0, 0, 3);
        x.leap(5, -3);
        x.leap(5, 1);
        x.snip(1, 5);
        int[] ofTheLast = {1, 3, 1, 1};
        for (int i = 0; i < 4; i++) due.is("of the sixth one, count(" + (3 + i) + ")", x.count(3 + i), ofTheLast[i]);
    }

    private static void countPairs() {
        due.sentence("7 pairs of kittens that are bound");
        due.is("none", Scenes.laid(3, "012").count(7), 0);
        due.is("one", Scenes.laid(3, "0102").count(7), 1);
        due.is("three at the lowest edge", Scenes.laid(0, "012012").count(7), 3);
        due.is("three at the highest edge", Scenes.laid(14, "012012").count(7), 3);
        KittenStairs x = Scenes.roomy(0, 0);
        x.leap(0, 2);
        x.leap(1, 2);
        x.leap(0, -2);
        due.is("one that is bound at two edges", x.count(7), 1);
    }

    private static void countLeaps() {
        due.sentence("8 leaps made so far, 9 planned ones refused so far, 10 leaps planned");
        KittenStairs x = Scenes.plain(5, 5);
        x.leap(0, 1);
        x.leap(0, 9);
        x.plan(1, 0, 1);
        x.plan(1, 0, 9);
        x.plan(2, 1, -9);
        x.plan(9, 1, 1);
        due.is("made", x.count(8), 1);
        due.is("refused ones that were not planned do not count", x.count(9), 0);
        due.is("planned", x.count(10), 4);
        x.pass(1);
        due.is("made, with a planned one", x.count(8), 2);
        due.is("refused", x.count(9), 1);
        due.is("planned", x.count(10), 2);
        x.pass(1);
        due.is("made", x.count(8), 2);
        due.is("refused", x.count(9), 2);
        due.is("planned", x.count(10), 1);
        x.stepIn(1, 50);
        x.ifLeapt(1, 1, 0);
        due.is("those that would be made do not count", x.count(8), 2);
        x.undo();
        due.is("refused, one is undone", x.count(9), 1);
    }

    private static void countSettings() {
        due.sentence("11 to 14 the settings");
        KittenStairs x = new KittenStairs();
        int[] first = {3, 4, 5, 14};
        int[] then = {7, 11, 23, 47};
        for (int s = 0; s < 4; s++) {
            due.is("at first", x.count(11 + s), first[s]);
            x.set(s, then[s]);
        }
        for (int s = 0; s < 4; s++) due.is("then", x.count(11 + s), then[s]);
    }

    private static void countPadAndHistory() {
        due.sentence("15 the length of the pad, 16 how many changes can be undone");
        KittenStairs x = new KittenStairs();
        for (int length = 1; length <= 80; length++) {
            x.put('k');
            due.is("length", x.count(15), length);
        }
        x.wipe();
        due.is("an empty pad", x.count(15), 0);
        for (int i = 1; i <= 8; i++) {
            x.pass(1);
            due.is("changes", x.count(16), Math.min(i, 6));
        }
        x.undo();
        due.is("one less", x.count(16), 5);
    }

    private static void countErrors() {
        due.sentence("Returns the number; BAD_VALUE if what is out of range.");
        KittenStairs x = new KittenStairs();
        for (int what : new int[] {-1, 17, 18, LEAST, MOST}) due.is("count(" + what + ")", x.count(what), BAD_VALUE);
    }
}
