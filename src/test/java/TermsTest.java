/** The document's terms: settings, stairs, kittens, strands, leaps, turns. (TextsTest has the texts.) */
public final class TermsTest {
    private static final int NO_SUCH = -1, BAD_VALUE = -2, TOO_MANY = -4, NOT_POSSIBLE = -5, NONE = -6;
    private static final Due due = new Due();

    public static void main(String[] args) {
        settingRanges();
        settingLeap();
        settingBind();
        settingNap();
        settingVim();
        steps();
        edges();
        sixKittens();
        firstState();
        strandsWoundOrLaid();
        ballLengths();
        boundAtAnEdge();
        boundAtSomeEdge();
        boundOfEachPair();
        leapOverEdges();
        leapCost();
        firstReason();
        napReason();
        stairsReason();
        farReason();
        vimReason();
        boundReason();
        boundReasonFarther();
        boundReasonAhead();
        boundReasonOfMany();
        ballReason();
        turnNumber();
        wakingUp();
        plannedInTurns();
        plannedOrder();
        vimOfTurns();
        due.end();
    }

    private static void settingRanges() {
        int[][] all = {{1, 8, 3}, {0, 15, 4}, {1, 30, 5}, {2, 60, 14}};
        String[] sentences = {"LEAP (1 to 8; 3)", "BIND (0 to 15; 4)", "NAP (1 to 30; 5)", "VIM (2 to 60; 14)"};
        for (int s = 0; s < 4; s++) {
            due.sentence(sentences[s]);
            KittenStairs x = new KittenStairs();
            due.is("first value", x.count(11 + s), all[s][2]);
            for (int value = -2; value <= 70; value++) {
                boolean inRange = value >= all[s][0] && value <= all[s][1];
                int before = x.count(11 + s);
                due.is("set(" + s + ", " + value + ")", x.set(s, value), inRange ? before : BAD_VALUE);
                due.is("then", x.count(11 + s), inRange ? value : before);
            }
        }
    }

    private static void settingLeap() {
        due.sentence("steps of a leap up at most (a leap down has twice as many at most)");
        for (int leap = 1; leap <= 8; leap++) {
            KittenStairs x = Scenes.roomy(0, 15);
            x.set(KittenStairs.LEAP, leap);
            for (int by = 1; by <= 15; by++) {
                due.is(by + " up, LEAP is " + leap, x.why(0, by), by <= leap ? 0 : 3);
                due.is(by + " down, LEAP is " + leap, x.why(1, -by), by <= 2 * leap ? 0 : 3);
            }
        }
    }

    private static void settingBind() {
        due.sentence("steps by which two that are bound are apart at most");
        for (int bind = 0; bind <= 15; bind++) {
            KittenStairs x = Scenes.laid(0, "010");
            // 0 is on step 0, 1 on step 1: 0 may always come to where they are as far apart.
            x.set(KittenStairs.BIND, bind);
            for (int by = 1; by <= 8; by++) {
                int apart = Math.abs(by - 1);
                due.is(by + " up, BIND is " + bind, x.why(0, by), apart > bind && apart > 1 ? 5 : 0);
            }
        }
        KittenStairs x = Scenes.laid(0, "010");
        x.leap(1, 8);
        x.leap(1, 6);
        x.pass(60);
        due.is("from one end of the stairs to the other one", x.ofEdge(0, 3) == 1 ? x.of(1, 0) : -9, 15);
        x.set(KittenStairs.LEAP, 8);
        due.is("nobody is held back by 15", x.why(0, 8), 0);
        x.set(KittenStairs.BIND, 14);
        due.is("14 apart", x.leap(1, -1), 14);
        due.is("15 apart", x.why(1, 1), 5);
        x.set(KittenStairs.BIND, 15);
        due.is("15 apart again", x.why(1, 1), 0);
    }

    private static void settingNap() {
        due.sentence("turns of a nap");
        for (int nap = 1; nap <= 30; nap++) {
            KittenStairs x = Scenes.plain(5);
            x.pass(7);
            x.set(KittenStairs.NAP, nap);
            due.is("wakes up", x.nap(0), 7 + nap);
            if (nap > 1) x.pass(nap - 1);
            due.is("naps in its last turn", x.count(2), 1);
            x.pass(1);
            due.is("is awake", x.count(2), 0);
        }
    }

    private static void settingVim() {
        due.sentence("vim of a kitten that is rested");
        for (int vim = 2; vim <= 60; vim++) {
            KittenStairs x = new KittenStairs();
            x.set(KittenStairs.VIM, vim);
            x.kitten(5);
            due.is("at first", x.of(0, 1), vim);
            x.leap(0, -1);
            x.leap(0, -1);
            due.is("spent", x.of(0, 1), vim - 2);
            x.pass(3);
            due.is("rested", x.of(0, 1), vim);
        }
    }

    private static void steps() {
        due.sentence("There are 16 steps, 0 (the lowest one) to 15");
        for (int step = -3; step <= 18; step++) {
            KittenStairs x = Scenes.roomy();
            boolean there = step >= 0 && step <= 15;
            due.is("kitten(" + step + ")", x.kitten(step), there ? 0 : NO_SUCH);
            if (there) due.is("step", x.of(0, 0), step);
            if (there && step < 15) due.is("up from " + step, x.leap(0, 1), step + 1);
            if (there && step > 0) due.is("down from there", x.leap(0, step == 15 ? -1 : -2), step - 1);
        }
        KittenStairs x = Scenes.plain(0, 15);
        due.is("below the lowest one", x.leap(0, -1), NOT_POSSIBLE);
        due.is("above the highest one", x.leap(1, 1), NOT_POSSIBLE);
    }

    private static void edges() {
        due.sentence("the edge k, 0 to 14, is between the steps k and k + 1");
        for (int k = 0; k <= 14; k++) {
            KittenStairs x = Scenes.plain(k, k + 1);
            x.leap(0, 1);
            for (int edge = 0; edge <= 14; edge++) due.is("up over " + k, x.ofEdge(edge, 0), edge == k ? 1 : 0);
            x.leap(1, -1);
            for (int edge = 0; edge <= 14; edge++) due.is("down over " + k, x.ofEdge(edge, 0), edge == k ? 2 : 0);
        }
        KittenStairs x = Scenes.plain(5);
        due.is("edge -1", x.ofEdge(-1, 0), NO_SUCH);
        due.is("edge 15", x.ofEdge(15, 0), NO_SUCH);
    }

    private static void sixKittens() {
        due.sentence("There are up to 6 kittens, numbered in the order in which they came.");
        KittenStairs x = new KittenStairs();
        int[] steps = {9, 15, 0, 9, 3, 14};
        for (int k = 0; k < 6; k++) {
            due.is("there is none yet", x.of(k, 0), NO_SUCH);
            due.is("kitten " + k, x.kitten(steps[k]), k);
            due.is("kittens", x.count(1), k + 1);
        }
        for (int k = 0; k < 6; k++) due.is("step of " + k, x.of(k, 0), steps[k]);
        due.is("one more", x.kitten(1), TOO_MANY);
        due.is("none of that number", x.of(6, 0), NO_SUCH);
        due.is("six", x.count(1), 6);
    }

    private static void firstState() {
        due.sentence("A kitten is on a step, is awake (at first) or naps, has vim (VIM at first), and a ball of yarn (40 lengths at first).");
        KittenStairs x = new KittenStairs();
        x.set(KittenStairs.VIM, 33);
        // One was there before that was not as at first any more, and is undone.
        x.kitten(2);
        x.leap(0, 2);
        x.nap(0);
        for (int i = 0; i < 3; i++) x.undo();
        x.kitten(11);
        int[] first = {11, 33, NONE, 40, 0, 0, 0, 0, 0};
        for (int what = 0; what < first.length; what++) due.is("of(0, " + what + ")", x.of(0, what), first[what]);
        due.is("none naps", x.count(2), 0);
    }

    private static void strandsWoundOrLaid() {
        due.sentence("if the strand on top there is its own, it winds that back (the strand is gone, its ball is one length longer);"
            + " otherwise it lays a strand on top (its ball is one length shorter)");
        KittenStairs x = Scenes.roomy(0, 0);
        x.leap(0, 1);
        due.is("no strand is there: it lays one", x.strand(0, 0), 0);
        due.is("shorter", x.of(0, 3), 39);
        x.leap(1, 1);
        due.is("another one's is on top: it lays one", x.strand(0, 1), 1);
        due.is("the other one's is below", x.strand(0, 0), 0);
        x.leap(0, -1);
        due.is("its own is below another one's: it lays one", x.strand(0, 2), 0);
        due.is("shorter still", x.of(0, 3), 38);
        x.leap(0, 1);
        due.is("its own is on top: that is gone", x.ofEdge(0, 0), 2);
        due.is("longer", x.of(0, 3), 39);
        due.is("the other one's is on top", x.strand(0, 1), 1);
        x.leap(1, -1);
        due.is("down, its own on top: that is gone", x.ofEdge(0, 0), 1);
        due.is("the other one's ball", x.of(1, 3), 40);
        x.leap(0, -1);
        due.is("the last one is gone", x.ofEdge(0, 0), 0);
        due.is("all is on the ball", x.of(0, 3), 40);
        // Those at other edges stay, also those that were laid later.
        x = Scenes.roomy(0, 5);
        x.leap(0, 2);
        x.leap(1, 2);
        x.leap(0, -2);
        due.is("0's are gone", x.ofEdge(0, 0) * 10 + x.ofEdge(1, 0), 0);
        due.is("1's stay", x.ofEdge(5, 0) * 10 + x.ofEdge(6, 0), 11);
        x.leap(1, -1);
        due.is("1's at 6 is gone", x.ofEdge(5, 0) * 10 + x.ofEdge(6, 0), 10);
        // Two of its own next to one another: one of them is wound back each time.
        x = Scenes.laid(0, "010");
        x.snip(0, 1);
        due.is("two of its own", x.ofEdge(0, 0), 2);
        x.leap(0, 1);
        due.is("one of them is left", x.ofEdge(0, 0), 1);
        x.leap(0, -1);
        due.is("none is left", x.ofEdge(0, 0), 0);
        x.leap(0, 1);
        due.is("one is laid again", x.ofEdge(0, 0), 1);
    }

    private static void ballLengths() {
        due.sentence("a ball of yarn (40 lengths at first)");
        KittenStairs x = Scenes.shortBalls(1);
        due.is("one length is left", x.of(0, 3), 1);
        due.is("the last one", x.leap(0, -1), 0);
        due.is("nothing is left", x.of(0, 3), 0);
        x.pass(60);
        due.is("it winds its own back", x.why(0, 1), 0);
        due.is("and lays it again, but no more", x.why(0, 2) * 10 + x.why(0, 3), 6);
        due.is("laid", x.of(0, 5), 40);
        due.is("snipped yarn does not come back", x.snip(0, 0) == 40 ? x.of(0, 3) : -9, 0);
    }

    private static void boundAtAnEdge() {
        due.sentence("Two kittens are bound at an edge if strands of both lie there, and, of these alone, one of the first one lies"
            + " between two of the other one (next to them or not), or the other way round.");
        String[] free = {"", "0", "1", "01", "10", "2", "021", "0201", "0212", "1202", "20212"};
        for (String order : free) boundBy(order, 0);
        String[] held = {"010", "101", "0210", "1201", "02120", "0101", "0120", "1021", "20102", "01010", "021201"};
        for (String order : held) boundBy(order, 1);
        // Strands of one alone, next to one another.
        KittenStairs x = Scenes.laid(7, "0101210");
        x.snip(7, 0);
        due.is("strands of 1 and of 2", x.ofEdge(7, 0), 4);
        due.is("1 2 1 are bound", x.bound(1, 2), 1 << 7);
        due.is("1 and 0 are not", x.bound(1, 0), 0);
        x.snip(7, 2);
        due.is("strands of 1 alone", x.ofEdge(7, 0), 3);
        due.is("are not bound to any", x.of(1, 8), 0);
        // 0 0 1 1: one over the other, however many.
        x = Scenes.laid(7, "02012121");
        x.snip(7, 2);
        due.is("0 0 1 1 1", x.ofEdge(7, 0), 5);
        due.is("are not bound", x.bound(0, 1), 0);
        // 0 1 1 0 are bound, with two between.
        x = Scenes.laid(7, "012102");
        x.snip(7, 2);
        due.is("0 1 1 0", x.ofEdge(7, 0), 4);
        due.is("are bound", x.bound(0, 1), 1 << 7);
        due.is("the other way round", x.bound(1, 0), 1 << 7);
        // 1 0 0 1, the same with the other one outside.
        x = Scenes.laid(7, "102012");
        x.snip(7, 2);
        due.is("1 0 0 1", x.ofEdge(7, 0), 4);
        due.is("are bound", x.bound(0, 1), 1 << 7);
        due.is("the other way round", x.bound(1, 0), 1 << 7);
    }

    private static void boundBy(String order, int held) {
        for (int edge : new int[] {0, 8, 14}) {
            KittenStairs x = Scenes.laid(edge, order);
            due.is("bound(0, 1) by " + order, x.bound(0, 1), held << edge);
            due.is("bound(1, 0) by " + order, x.bound(1, 0), held << edge);
        }
    }

    private static void boundAtSomeEdge() {
        due.sentence("They are bound if they are bound at some edge.");
        for (int edge = 0; edge <= 14; edge++) {
            KittenStairs x = Scenes.laid(edge, "010");
            due.is("0 is bound at " + edge, x.of(0, 8), 2);
            due.is("1 is bound at " + edge, x.of(1, 8), 1);
            due.is("pairs", x.count(7), 1);
        }
        // A strand of each at two edges, the other way round, binds nobody.
        KittenStairs x = Scenes.roomy(0, 2);
        x.leap(0, 2);
        x.leap(1, -2);
        x.snip(0, 0);
        x.leap(0, -2);
        due.is("edge 0", x.strand(0, 0) * 10 + x.strand(0, 1), 10);
        due.is("edge 1", x.strand(1, 0) * 100 + x.strand(1, 1) * 10 + x.strand(1, 2), 10);
        due.is("bound at edge 1 alone", x.bound(0, 1), 2);
        x.leap(0, 2);
        due.is("bound no more", x.bound(0, 1), 0);
    }

    private static void boundOfEachPair() {
        due.sentence("Two kittens are bound at an edge");
        for (int edge : new int[] {0, 7, 14}) {
            for (int a = 0; a < 6; a++) {
                for (int b = 0; b < 6; b++) if (a != b) boundPair(edge, a, b);
            }
        }
    }

    /** A strand of one lies between two of the other one. */
    private static void boundPair(int edge, int outer, int inner) {
        KittenStairs x = Scenes.roomy(edge, edge, edge, edge, edge, edge);
        x.leap(outer, 1);
        x.leap(inner, 1);
        due.is("outer would be bound", x.ifLeapt(outer, -1, 2), 1 << inner);
        x.leap(outer, -1);
        for (int k = 0; k < 6; k++) due.is("of " + k, x.of(k, 8), k == outer ? 1 << inner : k == inner ? 1 << outer : 0);
        due.is("bound", x.bound(outer, inner), 1 << edge);
        due.is("the other way round", x.bound(inner, outer), 1 << edge);
        due.is("pairs there", x.ofEdge(edge, 3), 1);
        due.is("pairs", x.count(7), 1);
        due.is("frees", x.frees(outer, inner) * 10 + x.frees(inner, outer), 11);
        due.is("outer would be free", x.ifLeapt(outer, 1, 3), 1 << inner);
        x.set(KittenStairs.BIND, 0);
        for (int k = 0; k < 6; k++) {
            // One that is on the upper step leaps up, the others down.
            int by = k == inner ? 1 : -1;
            boolean off = x.of(k, 0) + by < 0 || x.of(k, 0) + by > 15;
            due.is(k + " leaps away", x.why(k, by), off ? 2 : k == inner || k == outer ? 5 : 0);
        }
    }

    private static void leapOverEdges() {
        due.sentence("The kitten comes over each edge on the way, one after the other.");
        for (int from = 0; from <= 15; from++) {
            for (int to = Math.max(0, from - 15); to <= Math.min(15, from + 8); to++) {
                if (from == to) continue;
                KittenStairs x = Scenes.roomy(from);
                due.is("leap", x.leap(0, to - from), to);
                for (int edge = 0; edge <= 14; edge++) {
                    boolean onTheWay = edge >= Math.min(from, to) && edge < Math.max(from, to);
                    due.is(from + " to " + to + ", edge " + edge, x.ofEdge(edge, 0), onTheWay ? 1 : 0);
                }
                due.is("ball", x.of(0, 3), 40 - Math.abs(to - from));
            }
        }
    }

    private static void leapCost() {
        due.sentence("It costs 2 vim for each step up, 1 for each step down.");
        for (int by = -15; by <= 8; by++) {
            if (by == 0) continue;
            KittenStairs x = Scenes.roomy(by < 0 ? 15 : 0);
            x.leap(0, by);
            due.is("vim behind " + by, x.of(0, 1), 60 - (by > 0 ? 2 * by : -by));
        }
    }

    /** At first all six reasons are so; then one after the other is taken away. */
    private static void firstReason() {
        due.sentence("It is refused for the first of these reasons that is so");
        KittenStairs x = Scenes.shortBalls(0);
        x.set(KittenStairs.LEAP, 1);
        x.set(KittenStairs.BIND, 0);
        due.is("without vim, yarn, and bound", x.of(0, 1) * 100 + x.of(0, 3) * 10 + x.of(0, 8), 2);
        x.nap(0);
        due.is("napping, and all others", x.why(0, -3), 1);
        due.is("napping, too far and the later ones", x.why(0, 2), 1);
        due.is("napping, too little vim and the later ones", x.why(0, 1), 1);
        x.undo();
        due.is("off the stairs, and the later ones", x.why(0, -3), 2);
        due.is("off the stairs, but not too far", x.why(0, -2), 2);
        due.is("too far, and the later ones", x.why(0, 2), 3);
        due.is("too little vim, and the later ones", x.why(0, 1), 4);
        x.pass(60);
        due.is("bound, and without yarn", x.why(0, 1), 5);
        x.set(KittenStairs.BIND, 15);
        due.is("without yarn", x.why(0, 1), 6);
        x.snip(0, 1);
        due.is("not at all, its own is on top", x.why(0, 1), 0);
    }

    private static void napReason() {
        due.sentence("1 the kitten naps");
        KittenStairs x = Scenes.plain(5, 5);
        x.nap(0);
        for (int by = -15; by <= 15; by++) if (by != 0) due.is("by " + by, x.why(0, by), 1);
        due.is("the other one is awake", x.why(1, 1), 0);
        x.pass(4);
        due.is("ahead of the last turn", x.why(0, 1), 1);
        x.pass(1);
        due.is("awake", x.why(0, 1), 0);
    }

    private static void stairsReason() {
        due.sentence("2 it would come off the stairs");
        for (int step = 0; step <= 15; step++) {
            KittenStairs x = Scenes.plain(step);
            for (int by = -15; by <= 15; by++) {
                if (by == 0) continue;
                boolean off = step + by < 0 || step + by > 15;
                due.is(by + " from " + step, x.why(0, by) == 2 ? 1 : 0, off ? 1 : 0);
            }
        }
    }

    private static void farReason() {
        due.sentence("3 it is too far (LEAP steps up, twice as many down)");
        KittenStairs x = Scenes.plain(7);
        int[] ups = {0, 0, 0, 3, 3, 3, 3, 3};
        for (int by = 1; by <= 8; by++) due.is(by + " up", x.why(0, by), ups[by - 1]);
        int[] downs = {0, 0, 0, 0, 0, 0, 3};
        for (int by = 1; by <= 7; by++) due.is(by + " down", x.why(0, -by), downs[by - 1]);
    }

    private static void vimReason() {
        due.sentence("4 its vim is too little");
        for (int vim = 2; vim <= 17; vim++) {
            KittenStairs x = new KittenStairs();
            x.set(KittenStairs.LEAP, 8);
            x.set(KittenStairs.VIM, vim);
            x.kitten(0);
            for (int by = 1; by <= 8; by++) due.is(by + " up with " + vim, x.why(0, by), 2 * by > vim ? 4 : 0);
            x.kitten(15);
            for (int by = 1; by <= 15; by++) due.is(by + " down with " + vim, x.why(1, -by), by > vim ? 4 : 0);
        }
        KittenStairs x = Scenes.plain(0);
        x.set(KittenStairs.LEAP, 8);
        due.is("all of its vim", x.leap(0, 7), 7);
        due.is("nothing is left", x.of(0, 1), 0);
        due.is("a step down", x.why(0, -1), 4);
        x.pass(1);
        due.is("a step down with 1", x.why(0, -1), 0);
        due.is("a step up with 1", x.why(0, 1), 4);
        x.pass(1);
        due.is("a step up with 2", x.why(0, 1), 0);
    }

    private static void boundReason() {
        due.sentence("from which it would be more than BIND steps apart then");
        // 0 is on step 6, 1 on step 7, 2 on step 6.
        KittenStairs x = Scenes.laid(6, "010");
        x.set(KittenStairs.BIND, 2);
        due.is("0 comes to be 2 apart, below", x.why(0, -1), 0);
        due.is("0 comes to be 3 apart, below", x.why(0, -2), 5);
        due.is("0 comes to be 2 apart, above", x.why(0, 3), 0);
        due.is("0 comes to be 3 apart, above", x.why(0, 4), 5);
        due.is("1 comes to be 2 apart, below", x.why(1, -3), 0);
        due.is("1 comes to be 3 apart, below", x.why(1, -4), 5);
        due.is("1 comes to be 2 apart, above", x.why(1, 1), 0);
        due.is("1 comes to be 3 apart, above", x.why(1, 2), 5);
        due.is("2 is bound to none", x.why(2, 8), 0);
        x.snip(6, 1);
        due.is("0 is bound no more", x.why(0, -6), 0);
    }

    private static void boundReasonFarther() {
        due.sentence("and farther than it is now");
        KittenStairs x = Scenes.laid(6, "010");
        x.leap(1, 2);
        x.set(KittenStairs.BIND, 1);
        // 0 is on step 6, 1 on step 9: they are 3 apart, more than BIND.
        due.is("1 farther", x.why(1, 1), 5);
        due.is("1 nearer", x.why(1, -1), 0);
        due.is("1 to the same step", x.why(1, -3), 0);
        due.is("1 as far, on the other side", x.why(1, -6), 0);
        due.is("1 farther, on the other side", x.why(1, -7), 5);
        due.is("0 farther", x.why(0, -1), 5);
        due.is("0 nearer", x.why(0, 1), 0);
        due.is("0 as far, on the other side", x.why(0, 6), 0);
        due.is("0 farther, on the other side", x.why(0, 7), 5);
        x.set(KittenStairs.BIND, 4);
        due.is("farther, but not more than BIND", x.why(1, 1), 0);
    }

    private static void boundReasonAhead() {
        due.sentence("it is bound to a kitten (ahead of the leap)");
        // The leap would wind back the strand that binds, but they are bound ahead of it.
        KittenStairs x = Scenes.laid(6, "101");
        x.set(KittenStairs.BIND, 0);
        due.is("1 would be free", x.ifLeapt(1, 1, 3), 1);
        due.is("but is held back", x.why(1, 3), 5);
        x.leap(1, 1);
        due.is("free", x.bound(0, 1), 0);
        due.is("not held back", x.why(1, 3), 0);
        // The leap would bind them, but they are free ahead of it.
        x = Scenes.laid(6, "01");
        x.set(KittenStairs.BIND, 0);
        due.is("0 would be bound", x.ifLeapt(0, -3, 2), 2);
        due.is("not held back", x.why(0, -3), 0);
        due.is("it leaps", x.leap(0, -3), 4);
        due.is("bound", x.bound(0, 1), 1 << 6);
        due.is("held back", x.why(0, -1), 5);
    }

    private static void boundReasonOfMany() {
        due.sentence("5 it is bound to a kitten");
        // 1 is bound to 0 and to 2; it is nearer to one of them and farther from the other.
        KittenStairs x = Scenes.laid(6, "012012");
        due.is("1 is bound to both", x.of(1, 8), 5);
        x.leap(0, -3);
        x.leap(2, 3);
        x.set(KittenStairs.BIND, 3);
        due.is("steps", x.of(0, 0) * 10000 + x.of(1, 0) * 100 + x.of(2, 0), 30609);
        due.is("too far from 0", x.why(1, 1), 5);
        due.is("too far from 2", x.why(1, -1), 5);
        x.set(KittenStairs.BIND, 4);
        due.is("not too far from 0", x.why(1, 1), 0);
        due.is("not too far from 2", x.why(1, -1), 0);
        due.is("too far from 0", x.why(1, 2), 5);
        due.is("too far from 2", x.why(1, -2), 5);
    }

    private static void ballReason() {
        due.sentence("6 its ball would be too short on the way");
        KittenStairs x = Scenes.shortBalls(2);
        x.pass(60);
        due.is("ball", x.of(0, 3), 2);
        due.is("two edges", x.why(0, 2), 0);
        due.is("three edges", x.why(0, 3), 6);
        due.is("one is wound back, three are laid", x.why(1, 4), 0);
        due.is("one is wound back, four are laid", x.why(1, 5), 6);
        x.leap(1, 4);
        due.is("empty", x.of(1, 3), 0);
        due.is("three come back, one is laid", x.why(1, -4), 0);
        due.is("0 winds one back, and lays three", x.leap(0, 4), 4);
        due.is("0's is empty, too", x.of(0, 3), 0);
        due.is("0's lie on top of all", x.why(1, -4), 6);
        x.snip(2, 0);
        x.snip(1, 0);
        due.is("too short at first", x.why(1, -1), 6);
        due.is("long enough in the end, but too short on the way", x.why(1, -3), 6);
        x.snip(3, 0);
        due.is("long enough on the whole way", x.why(1, -3), 0);
    }

    private static void turnNumber() {
        due.sentence("The turn is 0 at first. When a turn passes, it is 1 more");
        KittenStairs x = new KittenStairs();
        due.is("at first", x.count(0), 0);
        for (int turn = 1; turn <= 20; turn++) {
            x.pass(1);
            due.is("turn", x.count(0), turn);
        }
        x.pass(7);
        due.is("seven more", x.count(0), 27);
        x.kitten(5);
        x.leap(0, 1);
        x.nap(0);
        due.is("nothing else makes a turn pass", x.count(0), 27);
    }

    private static void wakingUp() {
        due.sentence("each kitten whose nap ends at this turn wakes up, by numbers, with VIM vim");
        KittenStairs x = Scenes.plain(5, 5, 5);
        x.nap(2);
        x.pass(1);
        x.nap(0);
        x.set(KittenStairs.NAP, 4);
        x.nap(1);
        x.set(KittenStairs.VIM, 9);
        due.is("all nap", x.count(2), 7);
        x.pass(3);
        due.is("turn 4: all nap", x.count(2), 7);
        x.pass(1);
        due.is("turn 5: 1 and 2 wake up", x.count(2), 1);
        due.is("2's vim, less than it had", x.of(2, 1), 9);
        due.is("0 has the vim of before", x.of(0, 1), 14);
        due.is("the turn in which it wakes up", x.of(1, 2), NONE);
        x.set(KittenStairs.VIM, 60);
        x.pass(1);
        due.is("turn 6: 0 wakes up", x.count(2), 0);
        due.is("0's vim, more than it had", x.of(0, 1), 60);
        due.is("2's vim", x.of(2, 1), 10);
    }

    private static void plannedInTurns() {
        due.sentence("then the leaps that are planned for this turn are made, as far as they are not refused");
        KittenStairs x = Scenes.plain(0);
        x.nap(0);
        for (int in = 4; in <= 7; in++) x.plan(in, 0, in == 4 ? 1 : 3);
        due.is("asleep in turn 4", x.pass(4), 0);
        due.is("it is over", x.count(10), 3);
        due.is("it was refused", x.count(9), 1);
        due.is("awake in turn 5, ahead of the leap", x.pass(1), 1);
        due.is("vim comes behind it: 14 - 6 + 1", x.of(0, 1), 9);
        due.is("turn 6", x.pass(1), 1);
        due.is("9 - 6 + 1", x.of(0, 1), 4);
        due.is("turn 7: 4 are too little, though 5 or 6 come", x.pass(1), 0);
        due.is("4 + 1", x.of(0, 1), 5);
        due.is("step", x.of(0, 0), 6);
        due.is("two were refused", x.count(9), 2);
        due.is("none is left", x.count(10), 0);
        // One in a turn that is refused does not keep the next one from being made.
        x = Scenes.plain(5, 5);
        x.plan(1, 0, -9);
        x.plan(1, 0, 1);
        x.plan(1, 1, 15);
        x.plan(1, 1, 2);
        due.is("two of four", x.pass(1), 2);
        due.is("steps", x.of(0, 0) * 10 + x.of(1, 0), 67);
    }

    private static void plannedOrder() {
        due.sentence("in the order of their kittens, of one kitten in the order in which they were planned");
        KittenStairs x = Scenes.roomy(3, 3, 3);
        x.plan(1, 2, 1);
        x.plan(1, 0, 1);
        x.plan(1, 1, 1);
        due.is("three", x.pass(1), 3);
        for (int k = 0; k < 3; k++) due.is("by numbers", x.strand(3, k), k);
        // The other order would lead off the stairs.
        x = Scenes.roomy(13);
        x.plan(2, 0, -2);
        x.plan(2, 0, 4);
        due.is("none in turn 1", x.pass(1), 0);
        due.is("both in turn 2", x.pass(1), 2);
        due.is("step", x.of(0, 0), 15);
        x = Scenes.roomy(13);
        x.plan(2, 0, 4);
        x.plan(2, 0, -2);
        due.is("one alone", x.pass(2), 1);
        due.is("step", x.of(0, 0), 11);
        due.is("refused", x.count(9), 1);
        // Two of one kitten are not parted by one of a later kitten that was planned between.
        x = Scenes.roomy(3, 3);
        x.plan(1, 1, 2);
        x.plan(1, 0, 1);
        x.plan(1, 1, -2);
        x.plan(1, 0, 1);
        due.is("four", x.pass(1), 4);
        due.is("0 is there first, 1 winds back", x.ofEdge(3, 0) * 10 + x.ofEdge(4, 0), 11);
        due.is("its own are 0's", x.ofEdge(3, 2) * 10 + x.ofEdge(4, 2), 11);
    }

    private static void vimOfTurns() {
        due.sentence("then each kitten that is awake gets 1 vim, but VIM at most (more than that it keeps)");
        KittenStairs x = Scenes.plain(0, 5);
        x.leap(0, 1);
        due.is("12", x.of(0, 1), 12);
        x.pass(1);
        due.is("13", x.of(0, 1), 13);
        x.pass(1);
        due.is("VIM", x.of(0, 1), 14);
        x.pass(1);
        due.is("VIM at most", x.of(0, 1), 14);
        x.set(KittenStairs.VIM, 10);
        x.pass(5);
        due.is("more than that it keeps", x.of(0, 1), 14);
        x.leap(0, 2);
        due.is("10", x.of(0, 1), 10);
        x.pass(1);
        due.is("no more than VIM", x.of(0, 1), 10);
        x.leap(0, -2);
        x.nap(0);
        x.pass(4);
        due.is("none for one that naps", x.of(0, 1), 8);
        x.pass(1);
        due.is("VIM when it wakes up, and no more", x.of(0, 1), 10);
        due.is("the other one keeps its own", x.of(1, 1), 14);
        x.set(KittenStairs.VIM, 60);
        x.pass(3);
        due.is("1 in each turn", x.of(1, 1), 17);
        x.pass(43);
        due.is("up to VIM", x.of(1, 1), 60);
        due.is("of all", x.of(0, 1), 56);
    }
}
