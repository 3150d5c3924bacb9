/** What the document says ahead of its promises: conventions, and for how long an object is used. */
public final class ConventionsTest {
    private static final int NO_SUCH = -1, BAD_VALUE = -2, BAD_TEXT = -3, TOO_MANY = -4, NOT_POSSIBLE = -5, NONE = -6;
    private static final int LEAST = Integer.MIN_VALUE, MOST = Integer.MAX_VALUE;
    private static final Due due = new Due();

    private interface Scene {
        KittenStairs made();
    }

    private interface Call {
        int on(KittenStairs x);
    }

    public static void main(String[] args) {
        firstErrorOfChanges();
        firstErrorOfQueries();
        firstErrorOfTextsAndSlots();
        errorsOfSettings();
        errorsOfChanges();
        errorsOfRefusedLeaps();
        errorsOfFullRooms();
        errorsOfTheLastTurn();
        errorsOfQueries();
        errorsOfWhatIf();
        errorsOfTexts();
        errorsOfHistory();
        queriesChangeNothing();
        noneIsNoError();
        numberedFromZero();
        setsAreMasks();
        objectsAreTheirOwn();
        lastCalls();
        due.end();
    }

    private static final String FIRST = "it names its errors in the order in which they are checked, and the first one that applies is returned";

    private static void firstErrorOfChanges() {
        due.sentence(FIRST);
        KittenStairs x = Scenes.plain(5, 5, 5, 5, 5, 5);
        due.is("kitten: no step, and six kittens", x.kitten(16), NO_SUCH);
        due.is("kitten: no step below, and six kittens", x.kitten(-1), NO_SUCH);
        due.is("kitten: six kittens alone", x.kitten(5), TOO_MANY);
        due.is("leap: no kitten, and no steps", x.leap(6, 0), NO_SUCH);
        due.is("leap: no kitten, and too many steps", x.leap(-1, 16), NO_SUCH);
        due.is("leap: out of range, and off the stairs", x.leap(0, 16), BAD_VALUE);
        x.nap(0);
        due.is("leap: 0 steps, and napping", x.leap(0, 0), BAD_VALUE);
        due.is("leap: out of range, and napping", x.leap(0, -16), BAD_VALUE);
        due.is("snip: no edge, where none can lie", x.snip(15, 0), NO_SUCH);
        due.is("snip: no kitten, of which none can lie", x.snip(0, 6), NO_SUCH);
        due.is("plan: no kitten, and in 0 turns", x.plan(0, 6, 1), NO_SUCH);
        due.is("plan: no kitten, and 0 steps", x.plan(1, -1, 0), NO_SUCH);
        for (int i = 0; i < 16; i++) x.plan(50, 0, 1);
        due.is("plan: no kitten, and 16 planned", x.plan(1, 6, 1), NO_SUCH);
        due.is("plan: in 100 turns, and 16 planned", x.plan(100, 0, 1), BAD_VALUE);
        due.is("plan: in 0 turns, and 16 planned", x.plan(0, 0, 1), BAD_VALUE);
        due.is("plan: 0 steps, and 16 planned", x.plan(1, 0, 0), BAD_VALUE);
        due.is("plan: 16 steps, and 16 planned", x.plan(1, 0, 16), BAD_VALUE);
        due.is("plan: 16 planned alone", x.plan(1, 0, 1), TOO_MANY);
        x = Scenes.atTurn(9999);
        due.is("pass: 100 turns, and above 9999", x.pass(100), BAD_VALUE);
        due.is("pass: most turns, and above 9999", x.pass(MOST), BAD_VALUE);
        due.is("pass: above 9999 alone", x.pass(99), NOT_POSSIBLE);
    }

    private static void firstErrorOfQueries() {
        due.sentence(FIRST);
        KittenStairs x = Scenes.plain(5);
        due.is("of: no kitten, and no such thing", x.of(1, 10), NO_SUCH);
        due.is("of: no kitten, and a thing below 0", x.of(-1, -1), NO_SUCH);
        due.is("ofEdge: no edge, and no such thing", x.ofEdge(15, 4), NO_SUCH);
        due.is("ofEdge: no edge, and a thing below 0", x.ofEdge(-1, -1), NO_SUCH);
        due.is("bound: no kitten, and both the same", x.bound(1, 1), NO_SUCH);
        due.is("bound: no kitten below 0, and both the same", x.bound(-1, -1), NO_SUCH);
        due.is("planned: none planned, and no such thing", x.planned(0, 3), NO_SUCH);
        due.is("planned: below 0, and a thing below 0", x.planned(-1, -1), NO_SUCH);
        due.is("why: no kitten, and 0 steps", x.why(1, 0), NO_SUCH);
        due.is("why: no kitten, and 16 steps", x.why(-1, 16), NO_SUCH);
        due.is("ifLeapt: no kitten, and 0 steps", x.ifLeapt(1, 0, 0), NO_SUCH);
        due.is("ifLeapt: no kitten, and no such thing", x.ifLeapt(-1, 1, 4), NO_SUCH);
        due.is("ifLeapt: no such thing, and refused", x.ifLeapt(0, 15, 4), BAD_VALUE);
        due.is("ifLeapt: a thing below 0, and refused", x.ifLeapt(0, 15, -1), BAD_VALUE);
        due.is("ifLeapt: out of range, and off the stairs", x.ifLeapt(0, 16, 0), BAD_VALUE);
        due.is("frees: no kitten, and both the same", x.frees(1, 1), NO_SUCH);
        due.is("frees: no kitten below 0, and both the same", x.frees(-1, -1), NO_SUCH);
        due.is("stepIn: no kitten, and 0 turns", x.stepIn(1, 0), NO_SUCH);
        due.is("stepIn: no kitten, and 100 turns", x.stepIn(-1, 100), NO_SUCH);
        x.nap(0);
        due.is("ifLeapt: 0 steps, and napping", x.ifLeapt(0, 0, 0), BAD_VALUE);
    }

    private static void firstErrorOfTextsAndSlots() {
        due.sentence(FIRST);
        KittenStairs x = Scenes.written("k".repeat(80));
        due.is("put: no character, and a full pad", x.put(0), BAD_VALUE);
        due.is("put: a bad code, and a full pad", x.put(32), BAD_VALUE);
        due.is("put: a bit above, and a full pad", x.put(1L << 32 | 'k'), BAD_VALUE);
        due.is("put: a full pad alone", x.put('k'), TOO_MANY);
        due.is("restore: no slot, in which nothing is saved", x.restore(2), BAD_VALUE);
        due.is("restore: nothing saved alone", x.restore(1), NOT_POSSIBLE);
    }

    /** Something of everything: strands, a tangle, a nap, plans, a full history, a slot and a pad. */
    private static KittenStairs busy() {
        KittenStairs x = Scenes.roomy(3, 3, 9);
        x.leap(0, 2);
        x.leap(1, 2);
        x.leap(0, -2);
        x.save(0);
        x.leap(2, -1);
        x.nap(2);
        x.plan(2, 0, -1);
        x.plan(3, 1, 1);
        x.pass(1);
        Scenes.write(x, "k1;t2;x");
        return x;
    }

    /** An error: all that can be told afterwards is told as by a twin on which the call was not made. */
    private static void refused(String call, Scene scene, int error, Call called) {
        due.sentence("A call that returns an error changes nothing.");
        KittenStairs x = scene.made();
        KittenStairs twin = scene.made();
        due.is(call, called.on(x), error);
        same(call, x, twin);
    }

    private static void same(String call, KittenStairs x, KittenStairs twin) {
        due.holds("all stays as it is: " + call, Snapshot.whole(x).equals(Snapshot.whole(twin)));
        // The pad's characters show in what can be done with them, the history's states and the slots by coming back.
        due.is("the pad can be written on: " + call, Scenes.write(x, "4.0;k2"), Scenes.write(twin, "4.0;k2"));
        due.is("the fault: " + call, x.fault(), twin.fault());
        due.is("the orders: " + call, x.carryOut(), twin.carryOut());
        for (int i = 0; i < 6; i++) due.is("undo: " + call, x.undo(), twin.undo());
        due.holds("the history's first state stays: " + call, Snapshot.of(x).equals(Snapshot.of(twin)));
        for (int slot = 0; slot < 2; slot++) due.is("slot: " + call, x.restore(slot), twin.restore(slot));
        due.is("what the slots kept: " + call, x.count(3) * 99 + x.count(8), twin.count(3) * 99 + twin.count(8));
    }

    private static void refused(String call, int error, Call called) {
        refused(call, ConventionsTest::busy, error, called);
    }

    private static void errorsOfSettings() {
        int[][] ranges = {{1, 8}, {0, 15}, {1, 30}, {2, 60}};
        for (int s = 0; s < 4; s++) {
            int setting = s;
            for (int value : new int[] {ranges[s][0] - 1, ranges[s][1] + 1, LEAST, MOST}) {
                refused("set(" + s + ", " + value + ")", BAD_VALUE, x -> x.set(setting, value));
            }
        }
        for (int setting : new int[] {-1, 4, LEAST, MOST}) {
            refused("set(" + setting + ", 5)", BAD_VALUE, x -> x.set(setting, 5));
        }
    }

    private static void errorsOfChanges() {
        for (int step : new int[] {-1, 16, LEAST, MOST}) refused("kitten(" + step + ")", NO_SUCH, x -> x.kitten(step));
        for (int k : new int[] {-1, 3, 6, LEAST, MOST}) {
            refused("leap(" + k + ", 1)", NO_SUCH, x -> x.leap(k, 1));
            refused("nap(" + k + ")", NO_SUCH, x -> x.nap(k));
            refused("snip(4, " + k + ")", NO_SUCH, x -> x.snip(4, k));
            refused("plan(1, " + k + ", 1)", NO_SUCH, x -> x.plan(1, k, 1));
        }
        for (int by : new int[] {0, 16, -16, LEAST, MOST}) {
            refused("leap(0, " + by + ")", BAD_VALUE, x -> x.leap(0, by));
            refused("plan(1, 0, " + by + ")", BAD_VALUE, x -> x.plan(1, 0, by));
        }
        for (int edge : new int[] {-1, 15, LEAST, MOST}) refused("snip(" + edge + ", 0)", NO_SUCH, x -> x.snip(edge, 0));
        for (int in : new int[] {-1, 0, 100, LEAST, MOST}) refused("plan(" + in + ", 0, 1)", BAD_VALUE, x -> x.plan(in, 0, 1));
        for (int turns : new int[] {-1, 0, 100, LEAST, MOST}) refused("pass(" + turns + ")", BAD_VALUE, x -> x.pass(turns));
        refused("nap of one that naps", NOT_POSSIBLE, x -> x.nap(2));
        refused("snip where none of it lies", NOT_POSSIBLE, x -> x.snip(4, 2));
        refused("snip where none lies", NOT_POSSIBLE, x -> x.snip(0, 0));
    }

    private static void errorsOfRefusedLeaps() {
        refused("leap of one that naps", NOT_POSSIBLE, x -> x.leap(2, 1));
        refused("leap off the stairs", NOT_POSSIBLE, x -> x.leap(0, -4));
        refused("leap too far", NOT_POSSIBLE, x -> x.leap(0, 9));
        refused("leap with too little vim", ConventionsTest::weary, NOT_POSSIBLE, x -> x.leap(0, 3));
        refused("leap of one that is held back", ConventionsTest::held, NOT_POSSIBLE, x -> x.leap(0, -2));
        refused("leap without yarn", ConventionsTest::bare, NOT_POSSIBLE, x -> x.leap(0, 1));
    }

    private static KittenStairs weary() {
        KittenStairs x = Scenes.plain(0);
        x.leap(0, 3);
        x.leap(0, 2);
        return x;
    }

    private static KittenStairs held() {
        KittenStairs x = Scenes.laid(6, "010");
        x.set(KittenStairs.BIND, 2);
        return x;
    }

    private static KittenStairs bare() {
        KittenStairs x = Scenes.shortBalls(0);
        x.pass(60);
        x.snip(0, 0);
        x.snip(0, 1);
        return x;
    }

    private static void errorsOfFullRooms() {
        refused("a seventh kitten", () -> Scenes.plain(5, 5, 5, 5, 5, 5), TOO_MANY, x -> x.kitten(5));
        refused("a seventeenth plan", ConventionsTest::planned, TOO_MANY, x -> x.plan(1, 0, 1));
        refused("an eighty-first character", () -> Scenes.written("k1;".repeat(26) + "t2"), TOO_MANY, x -> x.put('1'));
        refused("eight more than there is room for", () -> Scenes.written("k1;".repeat(25)), TOO_MANY,
            x -> x.put(Scenes.packed("t1;t2;t3")));
    }

    private static KittenStairs planned() {
        KittenStairs x = Scenes.plain(5);
        for (int i = 1; i <= 16; i++) x.plan(i, 0, 1);
        return x;
    }

    private static void errorsOfTheLastTurn() {
        refused("pass beyond turn 9999", () -> late(9999), NOT_POSSIBLE, x -> x.pass(1));
        refused("pass from before to beyond it", () -> late(9950), NOT_POSSIBLE, x -> x.pass(50));
    }

    private static KittenStairs late(int turn) {
        KittenStairs x = Scenes.atTurn(turn, 5);
        x.plan(1, 0, 1);
        x.plan(40, 0, 1);
        return x;
    }

    private static void errorsOfQueries() {
        for (int k : new int[] {-1, 3, 6, LEAST, MOST}) {
            refused("of(" + k + ", 0)", NO_SUCH, x -> x.of(k, 0));
            refused("bound(" + k + ", 0)", NO_SUCH, x -> x.bound(k, 0));
            refused("bound(0, " + k + ")", NO_SUCH, x -> x.bound(0, k));
        }
        for (int edge : new int[] {-1, 15, LEAST, MOST}) {
            refused("ofEdge(" + edge + ", 0)", NO_SUCH, x -> x.ofEdge(edge, 0));
            refused("strand(" + edge + ", 0)", NO_SUCH, x -> x.strand(edge, 0));
        }
        for (int rank : new int[] {-1, 3, 240, LEAST, MOST}) refused("strand(4, " + rank + ")", NO_SUCH, x -> x.strand(4, rank));
        for (int rank : new int[] {-1, 2, 16, LEAST, MOST}) refused("planned(" + rank + ", 0)", NO_SUCH, x -> x.planned(rank, 0));
        for (int what : new int[] {-1, 17, LEAST, MOST}) {
            refused("of(0, " + what + ")", BAD_VALUE, x -> x.of(0, what));
            refused("ofEdge(4, " + what + ")", BAD_VALUE, x -> x.ofEdge(4, what));
            refused("planned(0, " + what + ")", BAD_VALUE, x -> x.planned(0, what));
            refused("count(" + what + ")", BAD_VALUE, x -> x.count(what));
        }
        refused("of(0, 10)", BAD_VALUE, x -> x.of(0, 10));
        refused("ofEdge(4, 4)", BAD_VALUE, x -> x.ofEdge(4, 4));
        refused("planned(0, 3)", BAD_VALUE, x -> x.planned(0, 3));
        refused("bound(1, 1)", BAD_VALUE, x -> x.bound(1, 1));
    }

    private static void errorsOfWhatIf() {
        for (int k : new int[] {-1, 3, 6, LEAST, MOST}) {
            refused("why(" + k + ", 1)", NO_SUCH, x -> x.why(k, 1));
            refused("ifLeapt(" + k + ", 1, 0)", NO_SUCH, x -> x.ifLeapt(k, 1, 0));
            refused("frees(" + k + ", 0)", NO_SUCH, x -> x.frees(k, 0));
            refused("frees(0, " + k + ")", NO_SUCH, x -> x.frees(0, k));
            refused("stepIn(" + k + ", 1)", NO_SUCH, x -> x.stepIn(k, 1));
        }
        for (int by : new int[] {0, 16, -16, LEAST, MOST}) {
            refused("why(0, " + by + ")", BAD_VALUE, x -> x.why(0, by));
            refused("ifLeapt(0, " + by + ", 0)", BAD_VALUE, x -> x.ifLeapt(0, by, 0));
        }
        for (int what : new int[] {-1, 4, LEAST, MOST}) {
            refused("ifLeapt(0, 1, " + what + ")", BAD_VALUE, x -> x.ifLeapt(0, 1, what));
        }
        for (int turns : new int[] {-1, 0, 100, LEAST, MOST}) {
            refused("stepIn(0, " + turns + ")", BAD_VALUE, x -> x.stepIn(0, turns));
        }
        refused("ifLeapt of one that naps", NOT_POSSIBLE, x -> x.ifLeapt(2, 1, 0));
        refused("frees(1, 1)", BAD_VALUE, x -> x.frees(1, 1));
    }

    private static void errorsOfTexts() {
        long[] bad = {0, -1, 32, 127, 128, 255, (long) 'k' << 8, (long) 'k' << 16 | 'k', Long.MIN_VALUE, Long.MIN_VALUE | 'k'};
        for (long characters : bad) refused("put(" + characters + ")", BAD_VALUE, x -> x.put(characters));
        refused("carryOut of a text that ends too early", BAD_TEXT, KittenStairs::carryOut);
        refused("carryOut of an empty pad", () -> Scenes.plain(5, 5), BAD_TEXT, KittenStairs::carryOut);
        refused("carryOut of a text with a fault behind an order", () -> Scenes.written("k1;q1"), BAD_TEXT, KittenStairs::carryOut);
    }

    private static void errorsOfHistory() {
        refused("undo of nothing", KittenStairs::new, NOT_POSSIBLE, KittenStairs::undo);
        refused("undo of nothing, with a pad", () -> Scenes.written("k1;k2;x"), NOT_POSSIBLE, KittenStairs::undo);
        for (int slot : new int[] {-1, 2, LEAST, MOST}) {
            refused("save(" + slot + ")", BAD_VALUE, x -> x.save(slot));
            refused("restore(" + slot + ")", BAD_VALUE, x -> x.restore(slot));
        }
        refused("restore of nothing", NOT_POSSIBLE, x -> x.restore(1));
    }

    private static void queriesChangeNothing() {
        due.sentence("what if; nothing changes");
        Call[] questions = {KittenStairs::quietIn, KittenStairs::thickest, KittenStairs::fault, x -> x.stepIn(0, 99),
            x -> x.stepIn(2, 4), x -> x.ifLeapt(0, 4, 0), x -> x.ifLeapt(0, -3, 1), x -> x.ifLeapt(1, -5, 2), x -> x.ifLeapt(1, 2, 3),
            x -> x.why(0, 1), x -> x.why(2, 1), x -> x.frees(0, 1), x -> x.bound(0, 1), x -> x.of(0, 9), x -> x.ofEdge(4, 3),
            x -> x.strand(4, 1), x -> x.planned(0, 2), x -> x.count(7)};
        for (int i = 0; i < questions.length; i++) {
            KittenStairs x = busy();
            KittenStairs twin = busy();
            due.holds("question " + i + " has an answer", questions[i].on(x) >= 0);
            due.is("question " + i + " has the same answer again", questions[i].on(x), questions[i].on(twin));
            same("question " + i, x, twin);
        }
    }

    private static void noneIsNoError() {
        due.sentence("NONE (-6) is not an error; it is returned only if no error applies.");
        KittenStairs x = Scenes.plain(5);
        due.is("an awake kitten", x.of(0, 2), NONE);
        due.is("no kitten, which would be awake", x.of(1, 2), NO_SUCH);
        due.is("an edge without strands", x.ofEdge(14, 1), NONE);
        due.is("no edge, which would be without strands", x.ofEdge(15, 1), NO_SUCH);
        due.is("no rank, which would have no kitten", x.strand(14, 0), NO_SUCH);
        due.is("no strand at all", x.thickest(), NONE);
        due.is("without a fault", Scenes.written("t1").fault(), NONE);
    }

    private static void numberedFromZero() {
        due.sentence("Everything is numbered from 0.");
        KittenStairs x = Scenes.plain();
        due.is("the first kitten", x.kitten(0), 0);
        due.is("the first edge", x.leap(0, 1) == 1 ? x.ofEdge(0, 0) : -9, 1);
        due.is("the lowest strand", x.strand(0, 0), 0);
        due.is("the first slot", x.save(0), 1);
        due.is("the first setting", x.set(0, 3), 3);
        due.is("the first plan", x.plan(1, 0, 1) == 1 ? x.planned(0, 0) : -9, 1);
        due.is("the first turn", x.count(0), 0);
        Scenes.write(x, "!");
        due.is("the first character", x.fault(), 0);
    }

    private static void setsAreMasks() {
        due.sentence("Sets of kittens and steps are bit masks.");
        KittenStairs x = Scenes.plain(0, 0, 0, 0, 0, 15);
        x.nap(0);
        x.nap(5);
        due.is("kittens 0 and 5", x.count(2), 1 | 1 << 5);
        due.is("steps 1 to 3", x.of(1, 9), 1 << 1 | 1 << 2 | 1 << 3);
        x.leap(1, 1);
        x.leap(4, 1);
        due.is("kittens 1 and 4", x.ofEdge(0, 2), 1 << 1 | 1 << 4);
        due.is("step 0 is among them", x.of(1, 9) & 1, 1);
        x.set(KittenStairs.LEAP, 8);
        KittenStairs y = Scenes.plain(14);
        due.is("step 15 is among them", y.of(0, 9) >> 15, 1);
    }

    private static void objectsAreTheirOwn() {
        due.sentence("Creates a staircase without kittens.");
        KittenStairs x = busy();
        KittenStairs other = new KittenStairs();
        KittenStairs untouched = new KittenStairs();
        due.holds("another one is new", Snapshot.whole(other).equals(Snapshot.whole(untouched)));
        due.is("it has a slot of its own", other.restore(0), NOT_POSSIBLE);
        due.is("and a history", other.undo(), NOT_POSSIBLE);
        other.kitten(1);
        other.leap(0, 2);
        other.save(1);
        Scenes.write(other, "t9");
        other.carryOut();
        other.set(KittenStairs.NAP, 30);
        due.holds("the first one stays", Snapshot.whole(x).equals(Snapshot.whole(busy())));
        due.is("its second slot, too", x.restore(1), NOT_POSSIBLE);
    }

    private static void lastCalls() {
        due.sentence("An object is used for at most 512 calls after it has been made");
        KittenStairs x = new KittenStairs();
        for (int i = 1; i <= 508; i++) due.is("call " + i, x.pass(19), 0);
        due.is("call 509", x.count(0), 9652);
        due.is("call 510", x.undo(), 5);
        due.is("call 511", x.count(0), 9633);
        due.is("call 512", x.pass(99), 0);
        x = Scenes.roomy(0);
        // 3 + 1 calls were made.
        for (int i = 5; i <= 508; i++) {
            if (i % 3 == 2) due.is("call " + i, x.leap(0, 1), 1);
            else if (i % 3 == 0) due.is("call " + i, x.leap(0, -1), 0);
            else due.is("call " + i, x.pass(3), 0);
        }
        due.is("call 509: leaps", x.count(8), 336);
        due.is("call 510: laid", x.of(0, 5), 168);
        due.is("call 511: wound", x.count(5), 168);
        due.is("call 512: undo", x.undo(), 5);
    }
}
