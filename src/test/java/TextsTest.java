/** Promises 21 to 24: put, wipe, fault, carryOut. */
public final class TextsTest {
    private static final int NO_SUCH = -1, BAD_VALUE = -2, BAD_TEXT = -3, TOO_MANY = -4, NOT_POSSIBLE = -5, NONE = -6;
    private static final Due due = new Due();

    public static void main(String[] args) {
        put();
        putBeyond();
        wipe();
        fault();
        carryOut();
        carryOutOrders();
        carryOutErrors();
        carryOutLongest();
        due.end();
    }

    private static KittenStairs written(String text) {
        KittenStairs x = new KittenStairs();
        Due.write(x, text);
        return x;
    }

    private static void put() {
        KittenStairs x = new KittenStairs();
        due.is("put(0)", x.put(0), BAD_VALUE);
        due.is("put(-1)", x.put(-1), BAD_VALUE);
        due.is("put(least)", x.put(Long.MIN_VALUE), BAD_VALUE);
        due.is("a space", x.put(32), BAD_VALUE);
        due.is("127", x.put(127), BAD_VALUE);
        due.is("255", x.put(255), BAD_VALUE);
        due.is("a code 32 above others", x.put(32L << 8 | 'k'), BAD_VALUE);
        due.is("8 bits that are 0 at the end", x.put((long) 'k' << 8), BAD_VALUE);
        due.is("8 bits that are 0 between", x.put((long) 'k' << 16 | '1'), BAD_VALUE);
        due.is("the highest bit above bits that are 0", x.put(Long.MIN_VALUE | '1'), BAD_VALUE);
        due.is("a high code as the first of eight", x.put(Due.packed("k1;k1;k1") | Long.MIN_VALUE), BAD_VALUE);
        due.is("errors append nothing", x.count(15), 0);
        due.is("the lowest code", x.put(33), 1);
        due.is("the highest code", x.put(126), 2);
        due.is("eight", x.put(Due.packed("k1;k2;k3")), 10);
        due.is("two", x.put(Due.packed("ab")), 12);
        due.is("put is no change", x.count(16), 0);
        // The lowest 8 bits are the last character.
        x = new KittenStairs();
        x.put((long) 'k' << 8 | '7');
        due.is("order of characters", x.carryOut(), 1);
        due.is("step", x.of(0, 0), 7);
    }

    private static void putBeyond() {
        KittenStairs x = new KittenStairs();
        for (int i = 1; i <= 9; i++) due.is("eight more", x.put(Due.packed("k1;k1;k1")), 8 * i);
        due.is("five more", x.put(Due.packed("k1;k1")), 77);
        due.is("four more", x.put(Due.packed(";k12")), TOO_MANY);
        due.is("a bad code is told first", x.put(Due.packed(";k1") << 8 | 32), BAD_VALUE);
        due.is("the length stays", x.count(15), 77);
        due.is("three more", x.put(Due.packed(";k1")), 80);
        due.is("one more", x.put('1'), TOO_MANY);
        due.is("none", x.put(0), BAD_VALUE);
    }

    private static void wipe() {
        KittenStairs x = new KittenStairs();
        due.is("empty", x.wipe(), 0);
        Due.write(x, "k1;k2;k3;k4");
        due.is("wipe", x.wipe(), 11);
        due.is("length", x.count(15), 0);
        due.is("again", x.wipe(), 0);
        due.is("wipe is no change", x.count(16), 0);
        Due.write(x, "k9");
        due.is("nothing of the first text", x.carryOut(), 1);
        due.is("step", x.of(0, 0), 9);
    }

    private static void fault() {
        String[] good = {"k0", "k9", "k10", "k99", "g0+1", "g9-99", "g5+0", "g5-0", "n0", "n9", "x0.0", "x14.5", "x99.9",
            "p1:0+1", "p99:9-99", "p0:0-0", "t0", "t99", "k1;k2", "g0+10;n1;x2.3;p4:5-6;t7;k8"};
        for (String text : good) due.is("fault of " + text, written(text).fault(), NONE);
        String[] bad = {"k00", "k01", "k100", "k999", "k-1", "k;", "kk", "K1", "!", ";", "k1;;k1", "k1,k1", "k1.",
            "g0", "g", "g0+", "g0*1", "g00+1", "g10+1", "g0+01", "g0+100", "g0-100", "g+1", "g0+-1", "n", "n10", "n00", "nn",
            "x1", "x1.", "x.1", "x01.1", "x1.11", "x100.1", "x1:1", "p1", "p1:", "p1:0", "p1:0+", "p1.0+1", "p100:0+1",
            "p01:0+1", "p1:00+1", "p1:0+1;", "t", "t100", "t+1", "k1;", "k1;k", "k1;t2;x", "k1;t2;x1.1.", "k1k1",
            "t5~", "g1+5g"};
        int[] place = {2, 2, 3, 3, 1, 1, 1, 0, 0, 0, 3, 2, 2,
            2, 1, 3, 2, 2, 2, 4, 5, 5, 1, 3, 1, 2, 2, 1,
            2, 3, 1, 2, 4, 3, 2, 2, 3, 4, 5, 2, 3,
            2, 4, 7, 1, 3, 1, 3, 4, 7, 10, 2,
            2, 4};
        for (int i = 0; i < bad.length; i++) {
            KittenStairs x = written(bad[i]);
            due.is("fault of " + bad[i], x.fault(), place[i]);
            due.is("carryOut of " + bad[i], x.carryOut(), BAD_TEXT);
            due.is("the pad stays", x.count(15), bad[i].length());
            due.is("nothing is recorded", x.count(16), 0);
        }
        due.is("fault of an empty text", new KittenStairs().fault(), 0);
        due.is("carryOut of an empty text", new KittenStairs().carryOut(), BAD_TEXT);
        for (int code = 33; code <= 126; code++) {
            KittenStairs x = new KittenStairs();
            x.put(code);
            due.is("first character " + (char) code, x.fault(), "kgnxpt".indexOf(code) >= 0 ? 1 : 0);
        }
        due.is("it is not undone", changedAhead().fault(), 2);
    }

    private static KittenStairs changedAhead() {
        KittenStairs x = written("k1");
        x.kitten(3);
        Due.write(x, "!");
        x.undo();
        return x;
    }

    private static void carryOut() {
        KittenStairs x = written("k3;k4;t2");
        due.is("three", x.carryOut(), 3);
        due.is("the pad is empty", x.count(15), 0);
        due.is("one change", x.count(16), 1);
        due.is("kittens", x.count(1), 2);
        due.is("turn", x.count(0), 2);
        due.is("the pad is empty", x.carryOut(), BAD_TEXT);
        due.is("no change", x.count(16), 1);
        due.is("undo", x.undo(), 0);
        due.is("all of them are undone", x.count(1) + x.count(0), 0);
        due.is("the pad is not written again", x.count(15), 0);
    }

    private static void carryOutOrders() {
        KittenStairs x = written("k5;k12;g0+2;g1-3;p3:0-4;n1;x5.0;p2:1+1;t1");
        due.is("nine", x.carryOut(), 9);
        due.is("kittens", x.count(1), 2);
        due.is("step of 0", x.of(0, 0), 7);
        due.is("step of 1", x.of(1, 0), 9);
        due.is("plans", x.count(10), 2);
        due.is("first plan", x.planned(0, 0) * 1000 + x.planned(0, 1) * 500 + x.planned(0, 2), 2601);
        due.is("second plan", x.planned(1, 0) * 1000 + x.planned(1, 1) * 500 + x.planned(1, 2), 3096);
        due.is("nap", x.of(1, 2), 5);
        due.is("snipped", x.of(0, 7), 1);
        due.is("strand at 6", x.strand(6, 0), 0);
        due.is("strand at 5", x.strand(5, 0), NO_SUCH);
        due.is("turn", x.count(0), 1);
        due.is("leaps", x.count(8), 2);
        Due.write(x, "k10;x9.1;p10:2+2");
        due.is("three", x.carryOut(), 3);
        due.is("snipped of 1", x.of(1, 7), 1);
        due.is("in 10 turns", x.planned(2, 0), 11);
        due.is("a number that ends with 0", x.of(2, 0), 10);
        Due.write(x, "t99");
        due.is("t99", x.carryOut(), 1);
        due.is("turn", x.count(0), 100);
        due.is("step of 0", x.of(0, 0), 3);
    }

    private static void carryOutErrors() {
        String[] first = {"k16", "g1+1", "g0+0", "g0-16", "g0+9", "n1", "n0;n0", "x15.0", "x0.1", "x0.0", "p0:0+1", "p1:1+1",
            "p1:0+16", "t0"};
        for (String text : first) {
            KittenStairs x = new KittenStairs();
            x.kitten(5);
            Due.write(x, "t1;" + text + ";t1");
            due.is("carryOut up to " + text, x.carryOut(), text.equals("n0;n0") ? 2 : 1);
            due.is("what comes behind it is not carried out: " + text, x.count(0), 1);
            due.is("the pad is empty", x.count(15), 0);
            due.is("a change", x.count(16), 2);
        }
        KittenStairs x = written("t0");
        due.is("none", x.carryOut(), 0);
        due.is("also a change", x.count(16), 1);
        due.is("with an empty pad", x.count(15), 0);
        x = written("t1;t1;t1");
        due.is("three", x.carryOut(), 3);
        Due.write(x, "t1");
        due.is("nothing of the text before", x.carryOut(), 1);
        x = written("k1;k1;k1;k1;k1;k1;k1");
        due.is("six kittens", x.carryOut(), 6);
    }

    private static void carryOutLongest() {
        StringBuilder text = new StringBuilder("t1");
        while (text.length() < 80) text.append(";t1");
        KittenStairs x = written(text.toString());
        due.is("80 characters", x.count(15), 80);
        due.is("no fault", x.fault(), NONE);
        due.is("27 orders", x.carryOut(), 27);
        due.is("turn", x.count(0), 27);
        x = written(text.substring(0, 77) + ";");
        due.is("too early", x.fault(), 78);
        x = written("k1;t" + "9".repeat(76));
        due.is("above 99", x.fault(), 6);
        due.is("the last turn", lastTurn().carryOut(), 1);
        due.is("NOT_POSSIBLE ends it", lastTurn().pass(2), NOT_POSSIBLE);
    }

    private static KittenStairs lastTurn() {
        KittenStairs x = new KittenStairs();
        for (int i = 0; i < 101; i++) x.pass(99);
        x.undo();
        x.pass(98);
        Due.write(x, "t1;t1;t1");
        return x;
    }
}
