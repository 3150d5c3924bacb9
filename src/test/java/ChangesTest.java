/** Promises 1 to 8: a new object, set, kitten, leap, nap, snip, plan, pass. (TermsTest has what leaps and turns do.) */
public final class ChangesTest {
    private static final int NO_SUCH = -1, BAD_VALUE = -2, TOO_MANY = -4, NOT_POSSIBLE = -5, NONE = -6;
    private static final int LEAST = Integer.MIN_VALUE, MOST = Integer.MAX_VALUE;
    private static final Due due = new Due();

    public static void main(String[] args) {
        newObject();
        setReturnsPrevious();
        setOutOfRange();
        setKeepsNaps();
        setKeepsVim();
        kittenNumber();
        kittenNoStep();
        kittenTooMany();
        leapReturnsStep();
        leapNoKitten();
        leapOutOfRange();
        leapEachBy();
        leapRefused();
        leapAllBalls();
        napReturnsTurn();
        napNoKitten();
        napNapping();
        snipReturnsHowMany();
        snipEachEdge();
        snipLost();
        snipNothingThere();
        snipJoins();
        planReturnsHowMany();
        planRange();
        planEachIn();
        planTooMany();
        passReturnsHowMany();
        passRange();
        passEachNumber();
        passOneByOne();
        passLastTurn();
        beyondLastTurn();
        changesAreRecorded();
        due.end();
    }

    private static void newObject() {
        due.sentence("Creates a staircase without kittens.");
        KittenStairs x = new KittenStairs();
        for (int what = 0; what <= 10; what++) due.is("count(" + what + ")", x.count(what), 0);
        due.is("LEAP", x.count(11), 3);
        due.is("BIND", x.count(12), 4);
        due.is("NAP", x.count(13), 5);
        due.is("VIM", x.count(14), 14);
        due.is("pad", x.count(15), 0);
        due.is("history", x.count(16), 0);
        for (int k = 0; k < 6; k++) due.is("kitten", x.of(k, 0), NO_SUCH);
        for (int edge = 0; edge < 15; edge++) {
            due.is("an edge's strands", x.ofEdge(edge, 0), 0);
            due.is("an edge's top", x.ofEdge(edge, 1), NONE);
        }
        due.is("plans", x.planned(0, 0), NO_SUCH);
        due.is("thickest", x.thickest(), NONE);
        due.is("quiet", x.quietIn(), 0);
        due.is("fault", x.fault(), 0);
        due.is("undo", x.undo(), NOT_POSSIBLE);
        due.is("slot 0", x.restore(0), NOT_POSSIBLE);
        due.is("slot 1", x.restore(1), NOT_POSSIBLE);
    }

    private static void setReturnsPrevious() {
        due.sentence("Returns the previous value");
        int[] lowest = {1, 0, 1, 2};
        int[] highest = {8, 15, 30, 60};
        int[] first = {3, 4, 5, 14};
        for (int s = 0; s < 4; s++) {
            KittenStairs x = new KittenStairs();
            due.is("the lowest", x.set(s, lowest[s]), first[s]);
            due.is("is set", x.count(11 + s), lowest[s]);
            due.is("the highest", x.set(s, highest[s]), lowest[s]);
            due.is("is set", x.count(11 + s), highest[s]);
            due.is("the same again", x.set(s, highest[s]), highest[s]);
            for (int t = 0; t < 4; t++) if (t != s) due.is("another setting stays", x.count(11 + t), first[t]);
        }
    }

    private static void setOutOfRange() {
        due.sentence("BAD_VALUE if there is no such setting, or the value is out of its range.");
        int[] lowest = {1, 0, 1, 2};
        int[] highest = {8, 15, 30, 60};
        KittenStairs x = new KittenStairs();
        for (int s = 0; s < 4; s++) {
            due.is("one below", x.set(s, lowest[s] - 1), BAD_VALUE);
            due.is("one above", x.set(s, highest[s] + 1), BAD_VALUE);
            due.is("the least", x.set(s, LEAST), BAD_VALUE);
            due.is("the most", x.set(s, MOST), BAD_VALUE);
        }
        for (int setting : new int[] {-1, 4, 11, LEAST, MOST}) due.is("no such setting", x.set(setting, 5), BAD_VALUE);
    }

    private static void setKeepsNaps() {
        due.sentence("naps that were begun end when they would have");
        KittenStairs x = Scenes.plain(3, 4, 5);
        due.is("a nap under 5", x.nap(0), 5);
        x.set(KittenStairs.NAP, 1);
        due.is("ends as it would have", x.of(0, 2), 5);
        due.is("a nap under 1", x.nap(1), 1);
        x.set(KittenStairs.NAP, 30);
        due.is("a nap under 30", x.nap(2), 30);
        x.pass(1);
        due.is("turn 1: 1 wakes up", x.count(2), 0b101);
        x.pass(3);
        due.is("turn 4: 0 naps", x.count(2), 0b101);
        x.pass(1);
        due.is("turn 5: 0 wakes up", x.count(2), 0b100);
        x.set(KittenStairs.NAP, 1);
        x.pass(24);
        due.is("turn 29: 2 naps", x.count(2), 0b100);
        x.pass(1);
        due.is("turn 30: 2 wakes up", x.count(2), 0);
    }

    private static void setKeepsVim() {
        due.sentence("vim stays");
        KittenStairs x = Scenes.plain(3, 3);
        x.leap(0, 1);
        x.nap(1);
        x.set(KittenStairs.VIM, 60);
        due.is("12", x.of(0, 1), 12);
        due.is("of one that naps", x.of(1, 1), 14);
        x.set(KittenStairs.VIM, 2);
        due.is("12, though that is more", x.of(0, 1), 12);
        due.is("a new kitten's", x.kitten(3) == 2 ? x.of(2, 1) : -9, 2);
    }

    private static void kittenNumber() {
        due.sentence("Returns its number");
        KittenStairs x = new KittenStairs();
        for (int k = 0; k < 6; k++) {
            due.is("number", x.kitten(3 * k), k);
            due.is("step", x.of(k, 0), 3 * k);
        }
        x.undo();
        x.undo();
        due.is("the number of one that is undone", x.kitten(1), 4);
        due.is("its step", x.of(4, 0), 1);
    }

    private static void kittenNoStep() {
        due.sentence("NO_SUCH if there is no such step");
        KittenStairs x = new KittenStairs();
        for (int step : new int[] {-1, 16, LEAST, MOST}) due.is("kitten(" + step + ")", x.kitten(step), NO_SUCH);
        due.is("none came", x.count(1), 0);
        due.is("the lowest step", x.kitten(0), 0);
        due.is("the highest step", x.kitten(15), 1);
    }

    private static void kittenTooMany() {
        due.sentence("TOO_MANY if there are 6 kittens.");
        KittenStairs x = Scenes.plain(15, 15, 15, 15, 15);
        due.is("a sixth", x.kitten(15), 5);
        due.is("a seventh", x.kitten(15), TOO_MANY);
        due.is("still", x.kitten(0), TOO_MANY);
        due.is("six", x.count(1), 6);
        x.undo();
        due.is("a sixth again", x.kitten(0), 5);
        due.is("a seventh again", x.kitten(0), TOO_MANY);
    }

    private static void leapReturnsStep() {
        due.sentence("Returns the step on which it is then");
        KittenStairs x = Scenes.roomy(4, 15);
        due.is("up", x.leap(0, 3), 7);
        due.is("step", x.of(0, 0), 7);
        due.is("down", x.leap(0, -5), 2);
        due.is("step", x.of(0, 0), 2);
        due.is("to the lowest one", x.leap(0, -2), 0);
        due.is("to the highest one", x.leap(0, 8) + x.leap(0, 7), 8 + 15);
        due.is("from the highest one to the lowest one", x.leap(1, -15), 0);
        due.is("leaps made", x.count(8), 6);
    }

    private static void leapNoKitten() {
        due.sentence("NO_SUCH if there is no such kitten");
        KittenStairs x = Scenes.roomy(4);
        for (int k : new int[] {-1, 1, 5, 6, LEAST, MOST}) due.is("leap(" + k + ", 1)", x.leap(k, 1), NO_SUCH);
        due.is("the last one", x.leap(0, 1), 5);
    }

    private static void leapOutOfRange() {
        due.sentence("BAD_VALUE if by is out of range");
        KittenStairs x = Scenes.roomy(15);
        for (int by : new int[] {0, 16, -16, 100, -100, LEAST, LEAST + 1, MOST}) due.is("by " + by, x.leap(0, by), BAD_VALUE);
        due.is("15 is in range", x.leap(0, 15), NOT_POSSIBLE);
        due.is("-15 is in range", x.leap(0, -15), 0);
        due.is("15 is in range, and on the stairs", x.leap(0, 15), NOT_POSSIBLE);
        due.is("1 is in range", x.leap(0, 1), 1);
        due.is("-1 is in range", x.leap(0, -1), 0);
    }

    private static void leapEachBy() {
        due.sentence("by: -15 to 15, not 0");
        for (int by = -20; by <= 20; by++) {
            boolean inRange = by >= -15 && by <= 15 && by != 0;
            int off = inRange ? NOT_POSSIBLE : BAD_VALUE;
            due.is("up from 0 by " + by, Scenes.roomy(0).leap(0, by), by >= 1 && by <= 8 ? by : off);
            due.is("down from 15 by " + by, Scenes.roomy(15).leap(0, by), by <= -1 && by >= -15 ? 15 + by : off);
            due.is("planned by " + by, Scenes.roomy(0).plan(1, 0, by), inRange ? 1 : BAD_VALUE);
        }
    }

    private static void leapRefused() {
        due.sentence("NOT_POSSIBLE if the leap is refused.");
        KittenStairs x = Scenes.plain(8);
        due.is("too far up", x.leap(0, 4), NOT_POSSIBLE);
        due.is("too far down", x.leap(0, -7), NOT_POSSIBLE);
        due.is("off the stairs", x.leap(0, -9), NOT_POSSIBLE);
        due.is("twice as far down", x.leap(0, -6), 2);
        due.is("up", x.leap(0, 3), 5);
        due.is("vim", x.of(0, 1), 2);
        due.is("too little vim", x.leap(0, 2), NOT_POSSIBLE);
        due.is("enough vim", x.leap(0, 1), 6);
        due.is("and none is left for a step down", x.leap(0, -1), NOT_POSSIBLE);
        x.nap(0);
        due.is("napping", x.leap(0, 1), NOT_POSSIBLE);
        due.is("it did not move", x.of(0, 0), 6);
        due.is("refused ones are not made", x.count(8), 3);
        due.is("refused ones are not planned ones", x.count(9), 0);
        x = Scenes.laid(6, "010");
        x.set(KittenStairs.BIND, 2);
        due.is("bound", x.leap(0, -2), NOT_POSSIBLE);
        x = Scenes.shortBalls(0);
        x.pass(60);
        due.is("without yarn", x.leap(0, 1), NOT_POSSIBLE);
        due.is("on the way", x.leap(1, 2), 2);
    }

    private static void leapAllBalls() {
        due.sentence("a ball of yarn (40 lengths at first)");
        KittenStairs x = Scenes.roomy(14, 14, 14, 14, 14, 14);
        for (int i = 0; i < 40; i++) {
            for (int k = 0; k < 6; k++) due.is("leap", x.leap(k, i % 2 == 0 ? 1 : -1), i % 2 == 0 ? 15 : 14);
        }
        x.pass(60);
        due.is("all yarn lies at one edge", x.ofEdge(14, 0), 240);
        due.is("all yarn lies", x.count(3), 240);
        due.is("the top one", x.strand(14, 239), 5);
        due.is("no more than that", x.strand(14, 240), NO_SUCH);
        due.is("pairs", x.ofEdge(14, 3), 15);
        due.is("frees", x.frees(0, 5), 39);
        due.is("thickest", x.thickest(), 14);
        due.is("no ball is left", x.why(0, 1), 6);
        due.is("save", x.save(0), 6);
        due.is("snip", x.snip(14, 5), 40);
        due.is("restore", x.restore(0), 6);
        due.is("the last one is wound back", x.leap(5, 1), 15);
        due.is("all but one", x.count(3), 239);
    }

    private static void napReturnsTurn() {
        due.sentence("A kitten naps: it wakes up NAP turns later.");
        KittenStairs x = Scenes.plain(5, 5);
        x.pass(3);
        due.is("nap", x.nap(0), 8);
        due.is("it naps", x.of(0, 2), 8);
        due.is("the other one does not", x.of(1, 2), NONE);
        due.is("it does not leap", x.leap(0, 1), NOT_POSSIBLE);
        due.is("the other one does", x.leap(1, 1), 6);
        x.pass(4);
        due.is("turn 7", x.of(0, 2), 8);
        x.pass(1);
        due.is("turn 8: awake", x.of(0, 2), NONE);
        due.is("it can nap again", x.nap(0), 13);
        x.set(KittenStairs.NAP, 1);
        due.is("a turn later", x.nap(1), 9);
        x.pass(1);
        due.is("turn 9: awake", x.of(1, 2), NONE);
    }

    private static void napNoKitten() {
        due.sentence("NO_SUCH if there is no such kitten");
        KittenStairs x = Scenes.plain(5, 5);
        for (int k : new int[] {-1, 2, 6, LEAST, MOST}) due.is("nap(" + k + ")", x.nap(k), NO_SUCH);
        due.is("the last one", x.nap(1), 5);
    }

    private static void napNapping() {
        due.sentence("NOT_POSSIBLE if it naps.");
        KittenStairs x = Scenes.plain(5);
        x.nap(0);
        due.is("at once", x.nap(0), NOT_POSSIBLE);
        x.pass(4);
        due.is("in its last turn", x.nap(0), NOT_POSSIBLE);
        due.is("it wakes up as it would have", x.of(0, 2), 5);
        x.pass(1);
        due.is("awake", x.nap(0), 10);
    }

    /** Kitten 0 has a strand at edge 0, one at 1 and 2 at edge 2; kitten 1 has one at each. */
    private static KittenStairs strewn() {
        KittenStairs x = Scenes.roomy(0, 0);
        x.leap(0, 3);
        x.leap(1, 3);
        x.leap(0, -1);
        return x;
    }

    private static void snipReturnsHowMany() {
        due.sentence("Snips all strands of a kitten at an edge");
        KittenStairs x = strewn();
        due.is("strands at 2", x.strand(2, 0) * 100 + x.strand(2, 1) * 10 + x.strand(2, 2), 10);
        due.is("both of 0", x.snip(2, 0), 2);
        due.is("the other one's stays", x.strand(2, 0), 1);
        due.is("alone", x.ofEdge(2, 0), 1);
        due.is("other edges stay", x.ofEdge(0, 0) * 10 + x.ofEdge(1, 0), 22);
        due.is("one of 1", x.snip(0, 1), 1);
        due.is("0's stays", x.strand(0, 0), 0);
        due.is("one of 0, the last one there", x.snip(0, 0), 1);
        due.is("none", x.ofEdge(0, 0), 0);
        x = Scenes.laid(5, "010");
        x.snip(5, 1);
        due.is("two that lie next to one another", x.snip(5, 0), 2);
        x = Scenes.shortBalls(0);
        due.is("all of a ball", x.snip(0, 0), 40);
    }

    private static void snipEachEdge() {
        due.sentence("Snips all strands of a kitten at an edge");
        KittenStairs x = Scenes.roomy(15, 15, 15, 15, 15, 15);
        for (int k = 0; k < 6; k++) x.leap(k, -15);
        for (int edge = 0; edge <= 14; edge++) {
            int k = edge % 6;
            due.is("snip at " + edge, x.snip(edge, k), 1);
            due.is("others stay", x.ofEdge(edge, 2), 0b111111 & ~(1 << k));
            for (int rank = 0; rank < 5; rank++) due.is("in their order", x.strand(edge, rank), rank < k ? rank : rank + 1);
        }
        for (int k = 0; k < 6; k++) due.is("snipped of " + k, x.of(k, 7), k < 3 ? 3 : 2);
        due.is("all that lie", x.count(3), 75);
    }

    private static void snipLost() {
        due.sentence("they are lost");
        KittenStairs x = strewn();
        int ball = x.of(0, 3);
        due.is("two", x.snip(2, 0), 2);
        due.is("its ball stays", x.of(0, 3), ball);
        due.is("they do not lie", x.of(0, 4), 2);
        due.is("they are not wound back", x.of(0, 6), 0);
        due.is("laid they were", x.of(0, 5), 4);
        due.is("snipped", x.of(0, 7), 2);
        due.is("of the other one", x.of(1, 7), 0);
        due.is("of all", x.count(6), 2);
        x.snip(0, 1);
        x.snip(0, 0);
        due.is("more of 0", x.of(0, 7), 3);
        due.is("more of all", x.count(6), 4);
    }

    private static void snipNothingThere() {
        due.sentence("NO_SUCH if there is no such edge or kitten; NOT_POSSIBLE if none of them lies there.");
        KittenStairs x = strewn();
        for (int edge : new int[] {-1, 15, LEAST, MOST}) due.is("snip(" + edge + ", 0)", x.snip(edge, 0), NO_SUCH);
        for (int k : new int[] {-1, 2, 6, LEAST, MOST}) due.is("snip(0, " + k + ")", x.snip(0, k), NO_SUCH);
        due.is("none lies there", x.snip(3, 0), NOT_POSSIBLE);
        due.is("none lies at the highest edge", x.snip(14, 0), NOT_POSSIBLE);
        due.is("of 0", x.snip(0, 0), 1);
        due.is("of 0 again, only 1's lies there", x.snip(0, 0), NOT_POSSIBLE);
    }

    private static void snipJoins() {
        due.sentence("Snips all strands of a kitten at an edge");
        KittenStairs x = Scenes.laid(0, "010101");
        due.is("three of 1 go", x.snip(0, 1), 3);
        due.is("three of 0 stay", x.ofEdge(0, 0), 3);
        due.is("of 0 alone", x.ofEdge(0, 2), 1);
        x.leap(0, -1);
        due.is("wound", x.ofEdge(0, 0), 2);
        x.leap(0, 1);
        due.is("wound again, over one of its own", x.ofEdge(0, 0), 1);
        due.is("ball", x.of(0, 3), 39);
    }

    private static void planReturnsHowMany() {
        due.sentence("Returns how many leaps are planned then");
        KittenStairs x = Scenes.plain(5, 5);
        due.is("one", x.plan(5, 0, 1), 1);
        due.is("one that will be refused", x.plan(1, 1, 15), 2);
        due.is("planned", x.count(10), 2);
        due.is("it did not leap", x.of(0, 0), 5);
        x.pass(1);
        due.is("one is over", x.plan(1, 0, -1), 2);
        x.pass(1);
        due.is("in one turn", x.of(0, 0), 4);
        x.nap(1);
        due.is("of one that naps", x.plan(1, 1, 1), 2);
    }

    private static void planRange() {
        due.sentence("NO_SUCH if there is no such kitten; BAD_VALUE if in or by is out of range");
        KittenStairs x = Scenes.plain(5);
        for (int k : new int[] {-1, 1, 6, LEAST, MOST}) due.is("plan(1, " + k + ", 1)", x.plan(1, k, 1), NO_SUCH);
        for (int in : new int[] {-1, 0, 100, LEAST, MOST}) due.is("in " + in, x.plan(in, 0, 1), BAD_VALUE);
        for (int by : new int[] {0, 16, -16, LEAST, LEAST + 1, MOST}) due.is("by " + by, x.plan(1, 0, by), BAD_VALUE);
        due.is("none is planned", x.count(10), 0);
        due.is("in 1, by 15", x.plan(1, 0, 15), 1);
        due.is("in 99, by -15", x.plan(99, 0, -15), 2);
        due.is("by 1", x.plan(2, 0, 1), 3);
        due.is("by -1", x.plan(2, 0, -1), 4);
        due.is("the latest one", x.planned(3, 0), 99);
    }

    private static void planEachIn() {
        due.sentence("in: 1 to 99: in how many turns");
        for (int in = -3; in <= 103; in++) {
            boolean inRange = in >= 1 && in <= 99;
            KittenStairs x = Scenes.plain(5);
            x.pass(7);
            due.is("in " + in, x.plan(in, 0, 1), inRange ? 1 : BAD_VALUE);
            due.is("its turn", x.planned(0, 0), inRange ? 7 + in : NO_SUCH);
            if (in > 1 && inRange) due.is("not made ahead of it", x.pass(in - 1), 0);
            if (inRange) due.is("made in it", x.pass(1), 1);
        }
    }

    private static void planTooMany() {
        due.sentence("TOO_MANY if 16 are planned.");
        KittenStairs x = Scenes.plain(5, 5);
        for (int i = 1; i <= 16; i++) due.is("plan", x.plan(i, i % 2, -15), i);
        due.is("a seventeenth", x.plan(1, 0, 1), TOO_MANY);
        due.is("of the other one", x.plan(99, 1, 1), TOO_MANY);
        due.is("sixteen", x.count(10), 16);
        x.pass(1);
        due.is("room for one", x.plan(1, 0, 1), 16);
        due.is("and no more", x.plan(1, 0, 1), TOO_MANY);
        x = Scenes.roomy(5);
        for (int i = 0; i < 16; i++) x.plan(7, 0, i % 2 == 0 ? 1 : -1);
        due.is("sixteen in one turn", x.pass(7), 16);
        due.is("none is left", x.count(10), 0);
        due.is("the first one again", x.plan(1, 0, 1), 1);
    }

    private static void passReturnsHowMany() {
        due.sentence("Returns how many planned leaps were made in them");
        KittenStairs x = Scenes.plain(5, 9);
        x.plan(1, 0, 1);
        x.plan(2, 0, 1);
        x.plan(3, 0, -15);
        x.plan(4, 0, -1);
        x.plan(4, 1, 1);
        due.is("pass(1)", x.pass(1), 1);
        due.is("step", x.of(0, 0), 6);
        due.is("plans", x.count(10), 4);
        due.is("other leaps are not planned ones", x.leap(1, -1), 8);
        due.is("pass(99): all but one that is refused", x.pass(99), 3);
        due.is("turn", x.count(0), 100);
        due.is("step then", x.of(0, 0), 6);
        due.is("refused", x.count(9), 1);
        due.is("made", x.count(8), 5);
        due.is("plans then", x.count(10), 0);
        due.is("nothing is planned", x.pass(99), 0);
    }

    private static void passRange() {
        due.sentence("BAD_VALUE if turns is out of range");
        KittenStairs x = new KittenStairs();
        for (int turns : new int[] {-1, 0, 100, -99, LEAST, MOST}) due.is("pass(" + turns + ")", x.pass(turns), BAD_VALUE);
        due.is("no turn passed", x.count(0), 0);
        due.is("1", x.pass(1), 0);
        due.is("99", x.pass(99), 0);
        due.is("turn", x.count(0), 100);
    }

    private static void passEachNumber() {
        due.sentence("turns: 1 to 99");
        for (int turns = -3; turns <= 103; turns++) {
            boolean inRange = turns >= 1 && turns <= 99;
            KittenStairs x = new KittenStairs();
            due.is("pass(" + turns + ")", x.pass(turns), inRange ? 0 : BAD_VALUE);
            due.is("turn", x.count(0), inRange ? turns : 0);
        }
    }

    private static void passOneByOne() {
        due.sentence("Turns pass.");
        KittenStairs x = eventful();
        KittenStairs y = eventful();
        int made = x.pass(12);
        for (int i = 0; i < 12; i++) made -= y.pass(1);
        due.is("as many are made in single turns", made, 0);
        due.holds("all is as behind single turns", Snapshot.of(x).equals(Snapshot.of(y)));
        due.is("refused: of 1 that naps, and twice for too little vim", x.count(9), 3);
    }

    private static KittenStairs eventful() {
        KittenStairs x = Scenes.plain(5, 6);
        x.plan(2, 0, 3);
        x.plan(4, 1, 3);
        x.plan(4, 0, 3);
        x.plan(5, 0, 3);
        x.plan(6, 0, 3);
        x.plan(11, 0, -6);
        x.nap(1);
        return x;
    }

    private static void passLastTurn() {
        due.sentence("NOT_POSSIBLE if the turn would be above 9999.");
        KittenStairs x = Scenes.atTurn(9900, 5);
        due.is("turn", x.count(0), 9900);
        due.is("to 9999 in 99", x.pass(99), 0);
        due.is("turn", x.count(0), 9999);
        due.is("one more", x.pass(1), NOT_POSSIBLE);
        due.is("99 more", x.pass(99), NOT_POSSIBLE);
        x.undo();
        due.is("to 9901", x.pass(1), 0);
        due.is("to 10000", x.pass(99), NOT_POSSIBLE);
        due.is("to 9999", x.pass(98), 0);
        due.is("to 10000", x.pass(1), NOT_POSSIBLE);
        due.is("turn", x.count(0), 9999);
        due.is("a kitten still leaps", x.leap(0, 1), 6);
    }

    /** Only pass() names that bound. */
    private static void beyondLastTurn() {
        due.sentence("(the bound of turns does not matter)");
        KittenStairs x = Scenes.atTurn(9998, 5);
        due.is("a plan for 10000", x.plan(2, 0, 1), 1);
        x.pass(1);
        due.is("its turn", x.planned(0, 0), 10000);
        due.is("step behind 9999", x.stepIn(0, 1), 6);
        due.is("quiet", x.quietIn(), 1);
        due.is("a nap beyond 9999", x.nap(0), 10004);
        due.is("quiet then", x.quietIn(), 5);
        due.is("napping in 10000", x.stepIn(0, 1), 5);
        due.is("a plan for 10098", x.plan(99, 0, -2), 2);
        due.is("quiet in 99", x.quietIn(), 99);
        due.is("step in 98", x.stepIn(0, 98), 5);
        due.is("step in 99", x.stepIn(0, 99), 3);
        due.is("turn", x.count(0), 9999);
        Scenes.write(x, "t1");
        due.is("by a text", x.carryOut(), 0);
        due.is("still", x.count(0), 9999);
    }

    private static void changesAreRecorded() {
        due.sentence("This is a change.");
        KittenStairs x = new KittenStairs();
        x.set(KittenStairs.VIM, 20);
        due.is("set", x.count(16), 1);
        x.kitten(4);
        due.is("kitten", x.count(16), 2);
        x.leap(0, 1);
        due.is("leap", x.count(16), 3);
        x.snip(4, 0);
        due.is("snip", x.count(16), 4);
        x.plan(1, 0, 1);
        due.is("plan", x.count(16), 5);
        x.pass(1);
        due.is("pass", x.count(16), 6);
        due.is("they are undone", x.undo() + x.undo(), 5 + 4);
        x.nap(0);
        due.is("nap", x.count(16), 5);
        x.undo();
        x.carryOut();
        due.is("an error is none", x.count(16), 4);
        Scenes.write(x, "t1");
        x.carryOut();
        due.is("carryOut", x.count(16), 5);
        x.save(0);
        due.is("save is none", x.count(16), 5);
        x.restore(0);
        due.is("restore", x.count(16), 6);
    }
}
