/** Promises 21 to 24: put, wipe, fault, carryOut; and the document's texts. */
public final class TextsTest {
    private static final int NO_SUCH = -1, BAD_VALUE = -2, BAD_TEXT = -3, TOO_MANY = -4, NOT_POSSIBLE = -5, NONE = -6;
    private static final Due due = new Due();

    public static void main(String[] args) {
        putOrder();
        putEight();
        putCodes();
        putBitsAbove();
        putNothing();
        putTooMany();
        wipe();
        faultNone();
        faultEachCharacter();
        faultFirst();
        faultTooEarly();
        faultAbove99();
        faultLongest();
        faultIsKept();
        carryOutOrders();
        orderOfEachKind();
        carryOutNumbers();
        carryOutFirstError();
        carryOutEachError();
        carryOutEmptiesPad();
        carryOutOneChange();
        carryOutNone();
        carryOutBadText();
        carryOutLongest();
        carryOutLastTurn();
        due.end();
    }

    private static void putOrder() {
        due.sentence("its lowest 8 bits are the last character, the next 8 bits the one before, and so on");
        KittenStairs x = new KittenStairs();
        due.is("two", x.put((long) 'k' << 8 | '7'), 2);
        due.is("no fault", x.fault(), NONE);
        due.is("more", x.put((long) ';' << 24 | (long) 'k' << 16 | (long) '1' << 8 | '2'), 6);
        due.is("no fault", x.fault(), NONE);
        due.is("both", x.carryOut(), 2);
        due.is("step of 0", x.of(0, 0), 7);
        due.is("step of 1", x.of(1, 0), 12);
        x.put((long) '7' << 8 | 'k');
        due.is("the other way round", x.fault(), 0);
    }

    private static void putEight() {
        due.sentence("1 to 8 characters");
        for (int length = 1; length <= 8; length++) {
            KittenStairs x = Scenes.written("!!");
            due.is(length + " characters", x.put(Scenes.packed("k1;k2;k3".substring(0, length))), 2 + length);
            due.is("length", x.count(15), 2 + length);
        }
        KittenStairs x = new KittenStairs();
        x.put(Scenes.packed("k1;k2;k3"));
        due.is("all eight", x.carryOut(), 3);
        for (int k = 0; k < 3; k++) due.is("step", x.of(k, 0), k + 1);
    }

    private static void putCodes() {
        due.sentence("a code is not 33 to 126");
        for (int code = 1; code <= 255; code++) {
            boolean good = code >= 33 && code <= 126;
            KittenStairs x = new KittenStairs();
            due.is("code " + code, x.put(code), good ? 1 : BAD_VALUE);
            due.is("as the last one", x.put((long) 'k' << 8 | code), good ? 3 : BAD_VALUE);
            due.is("as the first one of eight", x.put((long) code << 56 | Scenes.packed("1;k2;k3")), good ? 11 : BAD_VALUE);
            due.is("as the third one of five", x.put((long) code << 16 | Scenes.packed("k1\0k2")), good ? 16 : BAD_VALUE);
            due.is("length", x.count(15), good ? 16 : 0);
        }
    }

    private static void putBitsAbove() {
        due.sentence("or a bit above 8 bits that are 0 is not 0");
        KittenStairs x = new KittenStairs();
        for (int bit = 16; bit < 64; bit++) due.is("bit " + bit, x.put(1L << bit | 'k'), BAD_VALUE);
        for (int bit = 32; bit < 64; bit++) due.is("bit " + bit, x.put(1L << bit | Scenes.packed("k12")), BAD_VALUE);
        due.is("a character above them", x.put((long) 'k' << 16 | '1'), BAD_VALUE);
        due.is("a character far above them", x.put((long) 'k' << 56 | '1'), BAD_VALUE);
        due.is("characters, and 0 as the last one", x.put((long) 'k' << 8), BAD_VALUE);
        due.is("eight with 0 as the second one", x.put(Scenes.packed("k\0k1;k2;")), BAD_VALUE);
        due.is("nothing is appended", x.count(15), 0);
    }

    private static void putNothing() {
        due.sentence("BAD_VALUE if there is no character");
        KittenStairs x = new KittenStairs();
        due.is("0", x.put(0), BAD_VALUE);
        due.is("-1", x.put(-1), BAD_VALUE);
        due.is("the least", x.put(Long.MIN_VALUE), BAD_VALUE);
        due.is("the most", x.put(Long.MAX_VALUE), BAD_VALUE);
        due.is("nothing is appended", x.count(15), 0);
        x.put('k');
        due.is("0 behind one", x.put(0), BAD_VALUE);
        due.is("one", x.count(15), 1);
    }

    private static void putTooMany() {
        due.sentence("TOO_MANY if the pad would be longer than 80.");
        KittenStairs x = new KittenStairs();
        for (int i = 1; i <= 9; i++) due.is("eight more", x.put(Scenes.packed("k1;k1;k1")), 8 * i);
        due.is("five more", x.put(Scenes.packed("k1;k1")), 77);
        due.is("four more", x.put(Scenes.packed(";k12")), TOO_MANY);
        due.is("eight more", x.put(Scenes.packed(";k12;k12")), TOO_MANY);
        due.is("the length stays", x.count(15), 77);
        due.is("three more", x.put(Scenes.packed(";k1")), 80);
        due.is("one more", x.put('1'), TOO_MANY);
        due.is("80", x.count(15), 80);
        for (int length = 1; length <= 8; length++) {
            x = Scenes.written("k".repeat(81 - length));
            due.is(length + " are one too many", x.put(Scenes.packed("12345678".substring(0, length))), TOO_MANY);
            x = Scenes.written("k".repeat(80 - length));
            due.is(length + " fill it", x.put(Scenes.packed("12345678".substring(0, length))), 80);
        }
    }

    private static void wipe() {
        due.sentence("Empties the pad, and returns the length that it had.");
        KittenStairs x = new KittenStairs();
        due.is("an empty one", x.wipe(), 0);
        Scenes.write(x, "k1;k2;k3;k4");
        due.is("eleven", x.wipe(), 11);
        due.is("length", x.count(15), 0);
        due.is("again", x.wipe(), 0);
        due.is("wipe is no change", x.count(16), 0);
        Scenes.write(x, "k9");
        due.is("nothing of the first text", x.carryOut(), 1);
        due.is("step", x.of(0, 0), 9);
        due.is("a full one", Scenes.written("k".repeat(80)).wipe(), 80);
    }

    private static void faultNone() {
        due.sentence("Returns the fault of the pad, NONE if there is none.");
        String[] good = {"k0", "k9", "k10", "k99", "g0+1", "g9-99", "g5+0", "g5-0", "n0", "n9", "x0.0", "x14.5", "x99.9",
            "p1:0+1", "p99:9-99", "p0:0-0", "t0", "t99", "k1;k2", "g0+10;n1;x2.3;p4:5-6;t7;k8"};
        for (String text : good) due.is("fault of " + text, Scenes.written(text).fault(), NONE);
    }

    /** Which characters can stand behind the beginning of a text; NONE tells that it may end there. */
    private static void faultEachCharacter() {
        due.sentence("The fault is the index of the first character that cannot stand at its place");
        String digits = "0123456789";
        String[][] rows = {{"", "kgnxpt", ""}, {"k", digits, ""}, {"k0", ";", "end"}, {"k1", digits + ";", "end"},
            {"k9", digits + ";", "end"}, {"k10", ";", "end"}, {"k99", ";", "end"}, {"k1;", "kgnxpt", ""}, {"t", digits, ""},
            {"t0", ";", "end"}, {"t5", digits + ";", "end"}, {"t99", ";", "end"}, {"n", digits, ""}, {"n0", ";", "end"},
            {"n1", ";", "end"}, {"n9;", "kgnxpt", ""}, {"g", digits, ""}, {"g0", "+-", ""}, {"g9", "+-", ""}, {"g0+", digits, ""},
            {"g0-", digits, ""}, {"g0+0", ";", "end"}, {"g0-0", ";", "end"}, {"g0+1", digits + ";", "end"},
            {"g0-9", digits + ";", "end"}, {"g9+15", ";", "end"}, {"g0-99", ";", "end"}, {"x", digits, ""}, {"x0", ".", ""},
            {"x1", digits + ".", ""}, {"x14", ".", ""}, {"x99", ".", ""}, {"x1.", digits, ""}, {"x1.0", ";", "end"},
            {"x14.9", ";", "end"}, {"p", digits, ""}, {"p0", ":", ""}, {"p3", digits + ":", ""}, {"p99", ":", ""},
            {"p9:", digits, ""}, {"p9:1", "+-", ""}, {"p9:1+", digits, ""}, {"p9:1-", digits, ""}, {"p9:1+0", ";", "end"},
            {"p9:1-2", digits + ";", "end"}, {"p99:9-15", ";", "end"}, {"t1;x2.3;", "kgnxpt", ""}};
        for (String[] row : rows) {
            String ahead = row[0];
            due.is("the end of " + ahead, Scenes.written(ahead).fault(), row[2].isEmpty() ? ahead.length() : NONE);
            for (int code = 33; code <= 126; code++) {
                int fault = Scenes.written(ahead + (char) code).fault();
                boolean stands = fault == NONE || fault == ahead.length() + 1;
                due.is((char) code + " behind " + ahead, stands ? 1 : 0, row[1].indexOf(code) >= 0 ? 1 : 0);
                if (!stands) due.is("fault of " + ahead + (char) code, fault, ahead.length());
            }
        }
    }

    private static void faultFirst() {
        due.sentence("when the text is read from left to right");
        String[] bad = {"k00", "k01", "k100", "k-1", "k;", "kk", "K1", "!", ";", "k1;;k1", "k1,k1", "k1.", "g0", "g0*1", "g00+1",
            "g10+1", "g0+01", "g+1", "g0+-1", "n10", "n00", "nn", "x1", "x.1", "x01.1", "x1.11", "x1:1", "p1:0", "p1.0+1", "p01:0+1",
            "p1:00+1", "t+1", "k1;t2;x1.1.", "k1k1", "t5~", "g1+5g", "q;q;q", "k1;q;q", "k1;k1;k1;k1;k1;k1;K"};
        int[] place = {2, 2, 3, 1, 1, 1, 0, 0, 0, 3, 2, 2, 2, 2, 2,
            2, 4, 1, 3, 2, 2, 1, 2, 1, 2, 4, 2, 4, 2, 2,
            4, 1, 10, 2, 2, 4, 0, 3, 18};
        for (int i = 0; i < bad.length; i++) {
            due.is("fault of " + bad[i], Scenes.written(bad[i]).fault(), place[i]);
            due.is("with more behind it", Scenes.written(bad[i] + "~k1").fault(), place[i]);
        }
    }

    private static void faultTooEarly() {
        due.sentence("if there is none and the text ends too early (also if it is empty), it is the length of the text");
        due.is("an empty one", new KittenStairs().fault(), 0);
        String[] early = {"k", "g", "g0", "g0+", "g0-", "n", "x", "x1", "x14", "x1.", "p", "p1", "p10", "p1:", "p1:0", "p1:0+",
            "p1:0-", "t", "k1;", "k1;k", "k1;g0", "k1;t2;x", "k1;t2;x1.", "p1:0+1;"};
        for (String text : early) due.is("fault of " + text, Scenes.written(text).fault(), text.length());
        KittenStairs x = Scenes.written("k1");
        x.wipe();
        due.is("one that is wiped", x.fault(), 0);
    }

    private static void faultAbove99() {
        due.sentence("(also of a digit by which a number would be above 99)");
        String[] above = {"k100", "k999", "t100", "x100.1", "p100:0+1", "g0+100", "g0-100", "g0+150", "p1:0-100", "k1;t555"};
        int[] place = {3, 3, 3, 3, 3, 5, 5, 5, 7, 6};
        for (int i = 0; i < above.length; i++) due.is("fault of " + above[i], Scenes.written(above[i]).fault(), place[i]);
    }

    private static void faultLongest() {
        due.sentence("The pad is a text of at most 80 characters, a row of orders");
        due.is("80 characters", Scenes.written("k1;".repeat(26) + "t2").fault(), NONE);
        due.is("too early", Scenes.written("k1;".repeat(26)).fault(), 78);
        due.is("too early by one", Scenes.written("k1;".repeat(26) + "t").fault(), 79);
        due.is("too early at the end", Scenes.written("k1;".repeat(26) + "t;").fault(), 79);
        due.is("a last ;", Scenes.written("k10;".repeat(20)).fault(), 80);
        due.is("the longest orders", Scenes.written("p10:0+10;".repeat(8) + "p10:0+10").fault(), NONE);
        due.is("a fault in the last character", Scenes.written("k1;".repeat(26) + "nn").fault(), 79);
        due.is("far above 99", Scenes.written("k1;t" + "9".repeat(76)).fault(), 6);
    }

    private static void faultIsKept() {
        due.sentence("everything except the pad, the slots and the history is as it was before it");
        KittenStairs x = Scenes.written("k1");
        x.kitten(3);
        Scenes.write(x, "!");
        x.undo();
        due.is("the fault is not undone", x.fault(), 2);
        due.is("fault is no change", x.count(16), 0);
        due.is("told again", x.fault(), 2);
    }

    private static void carryOutOrders() {
        due.sentence("Carries the orders of the pad out, one after the other");
        KittenStairs x = Scenes.written("k5;k12;g0+2;g1-3;p3:0-4;n1;x5.0;p2:1+1;t1");
        due.is("nine", x.carryOut(), 9);
        due.is("kittens", x.count(1), 2);
        due.is("step of 0", x.of(0, 0), 7);
        due.is("step of 1", x.of(1, 0), 9);
        due.is("plans", x.count(10), 2);
        due.is("first plan", x.planned(0, 0) * 1000 + x.planned(0, 1) * 500 + x.planned(0, 2), 2601);
        due.is("second plan", x.planned(1, 0) * 1000 + x.planned(1, 1) * 500 + x.planned(1, 2), 3096);
        due.is("nap", x.of(1, 2), 5);
        due.is("snipped", x.of(0, 7), 1);
        due.is("strand at 6", x.strand(6, 0), 0);
        due.is("strand at 5", x.strand(5, 0), NO_SUCH);
        due.is("turn", x.count(0), 1);
        due.is("leaps", x.count(8), 2);
    }

    /** Each order does what its method does, with the numbers at their places. */
    private static void orderOfEachKind() {
        String[] orders = {"k12", "g1-3", "n1", "x4.1", "p17:1+2", "t31"};
        String[] sentences = {"\"k\": kitten() on a step", "\"g\": leap()", "\"n\": nap()", "\"x\": snip() at an edge strands of a kitten",
            "\"p\": plan() a leap in so many turns", "\"t\": pass() turns"};
        for (int i = 0; i < 6; i++) {
            due.sentence(sentences[i]);
            KittenStairs x = crossed();
            KittenStairs y = crossed();
            Scenes.write(x, orders[i]);
            due.is(orders[i], x.carryOut(), 1);
            due.holds("a method answers well", called(y, i) >= 0);
            due.holds("both do the same", Snapshot.whole(x).equals(Snapshot.whole(y)));
            due.holds("they do something", !Snapshot.of(x).equals(Snapshot.of(crossed())));
        }
    }

    private static KittenStairs crossed() {
        KittenStairs x = Scenes.plain(3, 5);
        x.leap(0, 2);
        x.leap(1, -1);
        x.leap(1, 1);
        x.leap(1, -2);
        x.leap(1, 1);
        return x;
    }

    private static int called(KittenStairs y, int kind) {
        switch (kind) {
            case 0: return y.kitten(12);
            case 1: return y.leap(1, -3);
            case 2: return y.nap(1);
            case 3: return y.snip(4, 1);
            case 4: return y.plan(17, 1, 2);
            default: return y.pass(31);
        }
    }

    private static void carryOutNumbers() {
        due.sentence("A digit is 0 to 9, a number 0 to 99, without leading zeros.");
        for (int number = 0; number <= 15; number++) {
            KittenStairs x = Scenes.written("k" + number);
            due.is("k" + number, x.carryOut(), 1);
            due.is("step", x.of(0, 0), number);
        }
        for (int number = 1; number <= 99; number++) {
            KittenStairs x = Scenes.written("t" + number);
            due.is("t" + number, x.carryOut(), 1);
            due.is("turn", x.count(0), number);
            x = Scenes.written("k5;p" + number + ":0+1");
            due.is("p" + number, x.carryOut(), 2);
            due.is("turn", x.planned(0, 0), number);
        }
        for (int by = 1; by <= 15; by++) {
            KittenStairs x = Scenes.written("k5;p1:0+" + by + ";p1:0-" + by);
            due.is("by " + by, x.carryOut(), 3);
            due.is("up", x.planned(0, 2), 100 + by);
            due.is("down", x.planned(1, 2), 100 - by);
        }
        KittenStairs x = Scenes.roomy(15);
        Scenes.write(x, "g0-15;x14.0;x10.0;x9.0;x0.0");
        due.is("a leap, and four snips", x.carryOut(), 5);
        due.is("step", x.of(0, 0), 0);
        due.is("snipped", x.count(6), 4);
        for (int edge : new int[] {0, 9, 10, 14}) due.is("none lies", x.ofEdge(edge, 0), 0);
        Scenes.write(x, "k1;k2;k3;k4;k5;n5;n0");
        due.is("the sixth kitten, too", x.carryOut(), 7);
        due.is("they nap", x.count(2), 0b100001);
    }

    private static void carryOutFirstError() {
        due.sentence("up to the first one that returns an error");
        KittenStairs x = Scenes.written("k3;k99;k4");
        due.is("one ahead of it", x.carryOut(), 1);
        due.is("it stays carried out", x.of(0, 0), 3);
        due.is("those behind it are not carried out", x.count(1), 1);
        due.is("undo", x.undo(), 0);
        due.is("is undone", x.count(1), 0);
        x = Scenes.written("k1;k1;k1;k1;k1;k1;k1;t1");
        due.is("six kittens", x.carryOut(), 6);
        due.is("no turn", x.count(0), 0);
    }

    private static void carryOutEachError() {
        due.sentence("Returns how many orders were carried out");
        String[] errors = {"k16", "k99", "g1+1", "g0+0", "g0-0", "g0+16", "g0-16", "g0+9", "n1", "n9", "x15.0", "x99.0", "x0.1",
            "x0.0", "p0:0+1", "p1:1+1", "p1:0+16", "p1:0-0", "t0"};
        for (String error : errors) {
            KittenStairs x = Scenes.plain(5);
            Scenes.write(x, "t1;" + error + ";t1");
            due.is("carryOut up to " + error, x.carryOut(), 1);
            due.is("what comes behind it is not carried out: " + error, x.count(0), 1);
            due.is("the pad is empty", x.count(15), 0);
            due.is("a change", x.count(16), 2);
            due.is("undone", x.undo() == 1 ? x.count(0) : -9, 0);
        }
        KittenStairs x = Scenes.plain(5);
        Scenes.write(x, "n0;n0;t1");
        due.is("a second nap", x.carryOut(), 1);
        x = Scenes.plain(5);
        for (int i = 0; i < 15; i++) x.plan(9, 0, 1);
        Scenes.write(x, "p9:0+1;p9:0+1;t1");
        due.is("a seventeenth plan", x.carryOut(), 1);
        due.is("sixteen", x.count(10), 16);
    }

    private static void carryOutEmptiesPad() {
        due.sentence("and empties the pad");
        KittenStairs x = Scenes.written("t1;t1;t1");
        due.is("three", x.carryOut(), 3);
        due.is("empty", x.count(15), 0);
        due.is("its fault", x.fault(), 0);
        Scenes.write(x, "t1");
        due.is("nothing of the text before", x.carryOut(), 1);
        due.is("turn", x.count(0), 4);
        Scenes.write(x, "t0");
        due.is("none", x.carryOut(), 0);
        due.is("empty, also behind an error", x.count(15), 0);
        Scenes.write(x, "t1;t0;t1");
        x.carryOut();
        due.is("empty, also of what was not carried out", x.count(15), 0);
    }

    private static void carryOutOneChange() {
        due.sentence("This is a change (one, with all of them; also if none is carried out).");
        KittenStairs x = Scenes.written("k3;k4;t2");
        due.is("three", x.carryOut(), 3);
        due.is("one change", x.count(16), 1);
        due.is("kittens", x.count(1), 2);
        due.is("turn", x.count(0), 2);
        due.is("undo", x.undo(), 0);
        due.is("all of them are undone", x.count(1) + x.count(0), 0);
        due.is("the pad is not written again", x.count(15), 0);
        due.sentence("An order of a text records nothing by itself.");
        x = new KittenStairs();
        x.pass(9);
        Scenes.write(x, "t1;t1;t1;t1;t1;t1;t1;t1");
        due.is("eight", x.carryOut(), 8);
        due.is("two changes", x.count(16), 2);
        due.is("undo", x.undo(), 1);
        due.is("turn ahead of the text", x.count(0), 9);
        due.is("undo", x.undo(), 0);
        due.is("turn at first", x.count(0), 0);
    }

    private static void carryOutNone() {
        due.sentence("also if none is carried out");
        KittenStairs x = Scenes.written("t0");
        due.is("none", x.carryOut(), 0);
        due.is("a change", x.count(16), 1);
        due.is("undo", x.undo(), 0);
        x = new KittenStairs();
        for (int i = 0; i < 6; i++) x.pass(1);
        Scenes.write(x, "n0");
        due.is("none", x.carryOut(), 0);
        due.is("six changes", x.count(16), 6);
        for (int i = 0; i < 6; i++) x.undo();
        due.is("the oldest one was dropped", x.count(0), 1);
    }

    private static void carryOutBadText() {
        due.sentence("BAD_TEXT if the pad has a fault (then it stays).");
        KittenStairs x = new KittenStairs();
        due.is("an empty pad", x.carryOut(), BAD_TEXT);
        Scenes.write(x, "k3;k4;k");
        due.is("too early", x.carryOut(), BAD_TEXT);
        due.is("the pad stays", x.count(15), 7);
        due.is("none is carried out", x.count(1), 0);
        due.is("nothing is recorded", x.count(16), 0);
        Scenes.write(x, "5");
        due.is("what stayed, and more", x.carryOut(), 3);
        for (int k = 0; k < 3; k++) due.is("step", x.of(k, 0), 3 + k);
        Scenes.write(x, "k1;K1");
        due.is("a fault behind an order", x.carryOut(), BAD_TEXT);
        due.is("the pad stays", x.count(15), 5);
        due.is("none came", x.count(1), 3);
        due.is("again", x.carryOut(), BAD_TEXT);
        due.is("the fault", x.fault(), 3);
        due.is("wiped", x.wipe(), 5);
    }

    private static void carryOutLongest() {
        due.sentence("Carries the orders of the pad out, one after the other");
        KittenStairs x = Scenes.written("t1;".repeat(26) + "t9");
        due.is("80 characters", x.count(15), 80);
        due.is("27 orders", x.carryOut(), 27);
        due.is("turn", x.count(0), 35);
        x = Scenes.plain(5);
        Scenes.write(x, "p10:0+10;".repeat(8) + "p11:0-11");
        due.is("nine of the longest ones", x.carryOut(), 9);
        due.is("the last one's turn", x.planned(8, 0), 11);
        due.is("the last one's steps", x.planned(8, 2), 89);
    }

    private static void carryOutLastTurn() {
        due.sentence("NOT_POSSIBLE if the turn would be above 9999.");
        KittenStairs x = Scenes.atTurn(9998);
        Scenes.write(x, "t1;t1;t1");
        due.is("one more turn", x.carryOut(), 1);
        due.is("turn", x.count(0), 9999);
        due.is("beyond it", x.pass(1), NOT_POSSIBLE);
        Scenes.write(x, "t1;k1");
        due.is("none", x.carryOut(), 0);
        due.is("no kitten", x.count(1), 0);
        x.undo();
        x.undo();
        due.is("undone", x.count(0), 9998);
        Scenes.write(x, "t2");
        due.is("beyond it at once", x.carryOut(), 0);
        due.is("turn", x.count(0), 9998);
    }
}
