/** Promises 1 to 8: a new object, set, kitten, leap, nap, snip, plan, pass. */
public final class ChangesTest {
    private static final int NO_SUCH = -1, BAD_VALUE = -2, TOO_MANY = -4, NOT_POSSIBLE = -5, NONE = -6;
    private static final Due due = new Due();

    public static void main(String[] args) {
        newObject();
        set();
        setLater();
        kitten();
        leap();
        leapLaysAndWinds();
        leapRefusals();
        leapBall();
        leapAllBalls();
        nap();
        snip();
        snipJoins();
        plan();
        pass();
        passOrder();
        passVim();
        passLastTurn();
        due.end();
    }

    /** A staircase on which vim and LEAP are no hindrance. */
    private static KittenStairs roomy(int... steps) {
        KittenStairs x = new KittenStairs();
        x.set(KittenStairs.VIM, 60);
        x.set(KittenStairs.LEAP, 8);
        for (int step : steps) x.kitten(step);
        return x;
    }

    private static void newObject() {
        KittenStairs x = new KittenStairs();
        for (int what = 0; what <= 10; what++) due.is("new count(" + what + ")", x.count(what), 0);
        due.is("new LEAP", x.count(11), 3);
        due.is("new BIND", x.count(12), 4);
        due.is("new NAP", x.count(13), 5);
        due.is("new VIM", x.count(14), 14);
        due.is("new pad", x.count(15), 0);
        due.is("new history", x.count(16), 0);
        due.is("new kitten 0", x.of(0, 0), NO_SUCH);
        for (int edge = 0; edge < 15; edge++) {
            due.is("new edge's strands", x.ofEdge(edge, 0), 0);
            due.is("new edge's top", x.ofEdge(edge, 1), NONE);
        }
        due.is("new plans", x.planned(0, 0), NO_SUCH);
        due.is("new slot 0", x.restore(0), NOT_POSSIBLE);
        due.is("new slot 1", x.restore(1), NOT_POSSIBLE);
    }

    private static void set() {
        int[] lowest = {1, 0, 1, 2};
        int[] highest = {8, 15, 30, 60};
        int[] first = {3, 4, 5, 14};
        for (int s = 0; s < 4; s++) {
            KittenStairs x = new KittenStairs();
            due.is("set below", x.set(s, lowest[s] - 1), BAD_VALUE);
            due.is("set above", x.set(s, highest[s] + 1), BAD_VALUE);
            due.is("set to least int", x.set(s, Integer.MIN_VALUE), BAD_VALUE);
            due.is("set changed nothing", x.count(11 + s), first[s]);
            due.is("set recorded nothing", x.count(16), 0);
            due.is("set lowest", x.set(s, lowest[s]), first[s]);
            due.is("lowest is set", x.count(11 + s), lowest[s]);
            due.is("set highest", x.set(s, highest[s]), lowest[s]);
            due.is("highest is set", x.count(11 + s), highest[s]);
            due.is("set again", x.set(s, highest[s]), highest[s]);
            due.is("set recorded", x.count(16), 3);
            for (int t = 0; t < 4; t++) if (t != s) due.is("another setting stays", x.count(11 + t), first[t]);
        }
        KittenStairs x = new KittenStairs();
        due.is("set(-1, 3)", x.set(-1, 3), BAD_VALUE);
        due.is("set(4, 3)", x.set(4, 3), BAD_VALUE);
        due.is("set(most, 3)", x.set(Integer.MAX_VALUE, 3), BAD_VALUE);
    }

    private static void setLater() {
        KittenStairs x = new KittenStairs();
        x.kitten(3);
        x.kitten(4);
        due.is("nap under 5", x.nap(0), 5);
        x.set(KittenStairs.NAP, 1);
        due.is("nap that was begun", x.of(0, 2), 5);
        due.is("nap under 1", x.nap(1), 1);
        x.set(KittenStairs.VIM, 20);
        due.is("vim stays", x.of(0, 1), 14);
        x.kitten(0);
        due.is("a new kitten's vim", x.of(2, 1), 20);
        x.pass(4);
        due.is("vim of one that still naps", x.of(0, 1), 14);
        x.pass(1);
        due.is("it wakes up as it would have", x.of(0, 2), NONE);
        due.is("with the VIM of now", x.of(0, 1), 20);
    }

    private static void kitten() {
        KittenStairs x = new KittenStairs();
        due.is("kitten(-1)", x.kitten(-1), NO_SUCH);
        due.is("kitten(16)", x.kitten(16), NO_SUCH);
        due.is("kitten recorded nothing", x.count(16), 0);
        due.is("kitten(0)", x.kitten(0), 0);
        due.is("kitten(15)", x.kitten(15), 1);
        due.is("kitten recorded", x.count(16), 2);
        int[] first = {15, 14, NONE, 40, 0, 0, 0, 0, 0};
        for (int what = 0; what < first.length; what++) due.is("of(1, " + what + ")", x.of(1, what), first[what]);
        for (int k = 2; k < 6; k++) due.is("kitten", x.kitten(15), k);
        due.is("a seventh", x.kitten(15), TOO_MANY);
        due.is("a seventh on no step", x.kitten(16), NO_SUCH);
        due.is("kittens", x.count(1), 6);
    }

    private static void leap() {
        KittenStairs x = roomy(4);
        due.is("up", x.leap(0, 3), 7);
        due.is("step", x.of(0, 0), 7);
        due.is("2 vim a step up", x.of(0, 1), 54);
        for (int edge = 0; edge < 15; edge++) {
            due.is("strands at " + edge, x.ofEdge(edge, 0), edge >= 4 && edge < 7 ? 1 : 0);
        }
        due.is("down", x.leap(0, -5), 2);
        due.is("1 vim a step down", x.of(0, 1), 49);
        for (int edge = 0; edge < 15; edge++) {
            due.is("strands at " + edge, x.ofEdge(edge, 0), edge >= 2 && edge < 4 ? 1 : 0);
        }
        due.is("recorded", x.count(16), 5);
        due.is("leap(-1, 1)", x.leap(-1, 1), NO_SUCH);
        due.is("leap(1, 1)", x.leap(1, 1), NO_SUCH);
        due.is("leap(1, 0)", x.leap(1, 0), NO_SUCH);
        due.is("leap(0, 0)", x.leap(0, 0), BAD_VALUE);
        due.is("leap(0, 16)", x.leap(0, 16), BAD_VALUE);
        due.is("leap(0, -16)", x.leap(0, -16), BAD_VALUE);
        due.is("leap(0, least)", x.leap(0, Integer.MIN_VALUE), BAD_VALUE);
        due.is("leap(0, 15)", x.leap(0, 15), NOT_POSSIBLE);
        due.is("leap(0, -15)", x.leap(0, -15), NOT_POSSIBLE);
        due.is("errors record nothing", x.count(16), 5);
        due.is("errors are no leaps", x.count(8), 2);
        due.is("refused ones are not planned ones", x.count(9), 0);
        due.is("it did not move", x.of(0, 0), 2);
    }

    private static void leapLaysAndWinds() {
        KittenStairs x = roomy(0, 0);
        x.leap(0, 2);
        x.leap(1, 2);
        due.is("over the other's", x.strand(0, 1), 1);
        x.leap(1, -1);
        due.is("its own on top is wound back", x.ofEdge(1, 0), 1);
        due.is("its ball", x.of(1, 3), 39);
        x.leap(0, -2);
        due.is("wound at 1", x.ofEdge(1, 0), 0);
        due.is("laid at 0, over the other's", x.ofEdge(0, 0), 3);
        due.is("lowest", x.strand(0, 0), 0);
        due.is("middle", x.strand(0, 1), 1);
        due.is("top", x.strand(0, 2), 0);
        due.is("ball", x.of(0, 3), 38);
        due.is("laid", x.of(0, 5), 3);
        due.is("wound", x.of(0, 6), 1);
    }

    private static void leapRefusals() {
        KittenStairs x = new KittenStairs();
        x.kitten(8);
        due.is("too far up", x.leap(0, 4), NOT_POSSIBLE);
        due.is("too far down", x.leap(0, -7), NOT_POSSIBLE);
        due.is("twice as far down", x.leap(0, -6), 2);
        due.is("up", x.leap(0, 3), 5);
        due.is("vim", x.of(0, 1), 2);
        due.is("too little vim", x.leap(0, 2), NOT_POSSIBLE);
        due.is("enough vim", x.leap(0, 1), 6);
        due.is("no vim is left", x.of(0, 1), 0);
        due.is("and none for a step down", x.leap(0, -1), NOT_POSSIBLE);
    }

    private static void leapBall() {
        KittenStairs x = roomy(0, 0);
        x.set(KittenStairs.BIND, 15);
        // Both go up and down edge 0; each lays a strand over the other's each time.
        for (int i = 0; i < 40; i++) {
            x.leap(0, i % 2 == 0 ? 1 : -1);
            x.leap(1, i % 2 == 0 ? 1 : -1);
            x.pass(10);
        }
        due.is("all of both balls lies", x.ofEdge(0, 0), 80);
        due.is("ball 0", x.of(0, 3), 0);
        due.is("ball 1", x.of(1, 3), 0);
        due.is("none can lay more", x.leap(0, 1), NOT_POSSIBLE);
        due.is("it is the ball", x.why(0, 1), 6);
        due.is("its own is on top, the next edge lays it again", x.leap(1, 2), 2);
        due.is("ball after", x.of(1, 3), 0);
        due.is("what it winds back at edge 1 does for edge 0", x.why(1, -2), 0);
        due.is("down to edge 1 alone", x.leap(1, -1), 1);
        due.is("one length", x.of(1, 3), 1);
    }

    private static void leapAllBalls() {
        KittenStairs x = roomy(14, 14, 14, 14, 14, 14);
        x.set(KittenStairs.BIND, 15);
        for (int i = 0; i < 40; i++) {
            for (int k = 0; k < 6; k++) due.is("leap", x.leap(k, i % 2 == 0 ? 1 : -1), i % 2 == 0 ? 15 : 14);
            x.pass(3);
        }
        due.is("all yarn lies at one edge", x.ofEdge(14, 0), 240);
        due.is("all yarn lies", x.count(3), 240);
        due.is("the top one", x.strand(14, 239), 5);
        due.is("no more than that", x.strand(14, 240), NO_SUCH);
        due.is("pairs", x.ofEdge(14, 3), 15);
        due.is("frees", x.frees(0, 5), 39);
        due.is("no ball is left", x.why(0, 1), 6);
        due.is("save", x.save(0), 6);
        due.is("snip", x.snip(14, 5), 40);
        due.is("restore", x.restore(0), 6);
        due.is("the last one is wound back", x.leap(5, 1), 15);
        due.is("all but one", x.count(3), 239);
    }

    private static void nap() {
        KittenStairs x = new KittenStairs();
        x.kitten(5);
        x.kitten(5);
        due.is("nap(2)", x.nap(2), NO_SUCH);
        due.is("nap(-1)", x.nap(-1), NO_SUCH);
        x.pass(3);
        due.is("nap(0)", x.nap(0), 8);
        due.is("nap recorded", x.count(16), 4);
        due.is("napping", x.nap(0), NOT_POSSIBLE);
        due.is("nothing recorded", x.count(16), 4);
        due.is("it does not leap", x.leap(0, 1), NOT_POSSIBLE);
        due.is("the other one does", x.leap(1, 1), 6);
        x.pass(4);
        due.is("still napping", x.nap(0), NOT_POSSIBLE);
        due.is("turn 7", x.of(0, 2), 8);
        x.pass(1);
        due.is("awake", x.of(0, 2), NONE);
        due.is("it can nap again", x.nap(0), 13);
    }

    private static void snip() {
        KittenStairs x = roomy(0, 0);
        x.leap(0, 1);
        x.leap(1, 1);
        x.leap(0, -1);
        x.leap(0, 2);
        x.leap(1, 1);
        due.is("snip(-1, 0)", x.snip(-1, 0), NO_SUCH);
        due.is("snip(15, 0)", x.snip(15, 0), NO_SUCH);
        due.is("snip(0, 2)", x.snip(0, 2), NO_SUCH);
        due.is("snip(0, -1)", x.snip(0, -1), NO_SUCH);
        due.is("none lies there", x.snip(14, 0), NOT_POSSIBLE);
        due.is("strands of 0 at 0", x.strand(0, 0), 0);
        due.is("strands at 0", x.ofEdge(0, 0), 2);
        int ball = x.of(0, 3);
        due.is("snip(0, 0)", x.snip(0, 0), 1);
        due.is("the other's stay", x.strand(0, 0), 1);
        due.is("at other edges, too", x.ofEdge(1, 0), 2);
        due.is("they are lost", x.of(0, 3), ball);
        due.is("snipped", x.of(0, 7), 1);
        due.is("all snipped", x.count(6), 1);
        due.is("again", x.snip(0, 0), NOT_POSSIBLE);
        due.is("undone", x.undo() >= 0 ? x.ofEdge(0, 0) : -9, 2);
    }

    private static void snipJoins() {
        KittenStairs x = roomy(0, 0);
        for (int i = 0; i < 3; i++) {
            x.leap(0, i % 2 == 0 ? 1 : -1);
            x.leap(1, i % 2 == 0 ? 1 : -1);
        }
        due.is("six", x.ofEdge(0, 0), 6);
        due.is("three of 1 go", x.snip(0, 1), 3);
        due.is("three of 0 stay", x.ofEdge(0, 0), 3);
        due.is("of 0", x.ofEdge(0, 2), 1);
        due.is("snipped of 1", x.of(1, 7), 3);
        due.is("lengths of 1 that are left", x.of(1, 3), 37);
        x.leap(0, -1);
        due.is("wound", x.ofEdge(0, 0), 2);
        x.leap(0, 1);
        due.is("wound again, over one of its own", x.ofEdge(0, 0), 1);
        due.is("ball", x.of(0, 3), 39);
    }

    private static void plan() {
        KittenStairs x = new KittenStairs();
        x.kitten(5);
        due.is("plan(1, 1, 1)", x.plan(1, 1, 1), NO_SUCH);
        due.is("plan(0, 1, 0)", x.plan(0, 1, 0), NO_SUCH);
        due.is("plan(1, -1, 1)", x.plan(1, -1, 1), NO_SUCH);
        due.is("plan(0, 0, 1)", x.plan(0, 0, 1), BAD_VALUE);
        due.is("plan(100, 0, 1)", x.plan(100, 0, 1), BAD_VALUE);
        due.is("plan(1, 0, 0)", x.plan(1, 0, 0), BAD_VALUE);
        due.is("plan(1, 0, 16)", x.plan(1, 0, 16), BAD_VALUE);
        due.is("plan(1, 0, -16)", x.plan(1, 0, -16), BAD_VALUE);
        due.is("errors record nothing", x.count(16), 1);
        due.is("one that will be refused", x.plan(99, 0, 15), 1);
        due.is("plan recorded", x.count(16), 2);
        for (int i = 2; i <= 16; i++) due.is("plan", x.plan(i, 0, -15), i);
        due.is("a seventeenth", x.plan(1, 0, 1), TOO_MANY);
        due.is("a seventeenth in no turn", x.plan(0, 0, 1), BAD_VALUE);
        due.is("plans", x.count(10), 16);
        x.pass(2);
        due.is("one is over", x.count(10), 15);
        due.is("room for one", x.plan(1, 0, 1), 16);
        x = new KittenStairs();
        x.set(KittenStairs.VIM, 60);
        x.kitten(5);
        for (int i = 0; i < 16; i++) x.plan(7, 0, i % 2 == 0 ? 1 : -1);
        due.is("sixteen in one turn", x.pass(7), 16);
        due.is("none is left", x.count(10), 0);
    }

    private static void pass() {
        KittenStairs x = new KittenStairs();
        x.kitten(5);
        due.is("pass(0)", x.pass(0), BAD_VALUE);
        due.is("pass(100)", x.pass(100), BAD_VALUE);
        due.is("pass(-1)", x.pass(-1), BAD_VALUE);
        due.is("errors record nothing", x.count(16), 1);
        x.plan(1, 0, 1);
        x.plan(2, 0, 1);
        x.plan(3, 0, -15);
        x.plan(4, 0, -1);
        due.is("pass(1)", x.pass(1), 1);
        due.is("step", x.of(0, 0), 6);
        due.is("plans", x.count(10), 3);
        due.is("pass(99)", x.pass(99), 2);
        due.is("turn", x.count(0), 100);
        due.is("step then", x.of(0, 0), 6);
        due.is("refused", x.count(9), 1);
        due.is("made", x.count(8), 3);
        due.is("plans then", x.count(10), 0);
        due.is("pass is one change", x.count(16), 6);
    }

    private static void passOrder() {
        KittenStairs x = roomy(3, 3, 3);
        x.plan(1, 2, 1);
        x.plan(1, 0, 1);
        x.plan(1, 1, 1);
        due.is("three", x.pass(1), 3);
        for (int k = 0; k < 3; k++) due.is("by numbers", x.strand(3, k), k);
        // One kitten's go in the order in which they were planned: the other order would lead off the stairs.
        x = roomy(13);
        x.plan(2, 0, -2);
        x.plan(2, 0, 4);
        due.is("none in turn 1", x.pass(1), 0);
        due.is("both in turn 2", x.pass(1), 2);
        due.is("step", x.of(0, 0), 15);
        x = roomy(13);
        x.plan(2, 0, 4);
        x.plan(2, 0, -2);
        due.is("one alone", x.pass(2), 1);
        due.is("step", x.of(0, 0), 11);
        due.is("refused", x.count(9), 1);
        // Those that wake up do so ahead of the leaps, and vim comes behind them.
        x = new KittenStairs();
        x.kitten(0);
        x.nap(0);
        x.plan(4, 0, 1);
        x.plan(5, 0, 3);
        x.plan(6, 0, 3);
        x.plan(7, 0, 3);
        due.is("asleep in turn 4", x.pass(4), 0);
        due.is("awake in turn 5", x.pass(1), 1);
        due.is("14 - 6 + 1", x.of(0, 1), 9);
        due.is("turn 6", x.pass(1), 1);
        due.is("9 - 6 + 1", x.of(0, 1), 4);
        due.is("turn 7: 4 are too little", x.pass(1), 0);
        due.is("4 + 1", x.of(0, 1), 5);
        due.is("two were refused", x.count(9), 2);
    }

    private static void passVim() {
        KittenStairs x = new KittenStairs();
        x.kitten(0);
        x.leap(0, 1);
        due.is("12", x.of(0, 1), 12);
        x.pass(1);
        due.is("13", x.of(0, 1), 13);
        x.pass(5);
        due.is("VIM at most", x.of(0, 1), 14);
        x.set(KittenStairs.VIM, 10);
        x.pass(5);
        due.is("more than that it keeps", x.of(0, 1), 14);
        x.leap(0, 3);
        x.nap(0);
        x.pass(4);
        due.is("none for one that naps", x.of(0, 1), 8);
        x.pass(1);
        due.is("VIM when it wakes up", x.of(0, 1), 10);
        x.set(KittenStairs.VIM, 60);
        x.pass(50);
        x.nap(0);
        x.set(KittenStairs.VIM, 2);
        x.pass(5);
        due.is("VIM when it wakes up, though it had more", x.of(0, 1), 2);
    }

    private static void passLastTurn() {
        KittenStairs x = new KittenStairs();
        x.kitten(5);
        for (int i = 0; i < 100; i++) x.pass(99);
        due.is("turn", x.count(0), 9900);
        due.is("to 9998", x.pass(98), 0);
        due.is("beyond 9999", x.pass(2), NOT_POSSIBLE);
        due.is("out of range first", x.pass(100), BAD_VALUE);
        due.is("plan beyond 9999", x.plan(2, 0, 1), 1);
        due.is("to 9999", x.pass(1), 0);
        due.is("turn", x.count(0), 9999);
        due.is("beyond 9999", x.pass(1), NOT_POSSIBLE);
        due.is("nothing happened", x.of(0, 0), 5);
        due.is("the planned one's turn", x.planned(0, 0), 10000);
        due.is("nap beyond 9999", x.nap(0), 10004);
        due.is("quiet", x.quietIn(), 5);
        due.is("step behind 9999", x.stepIn(0, 1), 5);
        due.is("undo", x.undo(), 5);
        due.is("step behind 9999", x.stepIn(0, 1), 6);
        due.is("quiet", x.quietIn(), 1);
        due.is("turn", x.count(0), 9999);
    }
}
