/** Promises 25 to 27: undo, save, restore. */
public final class HistoryTest {
    private static final int NO_SUCH = -1, BAD_VALUE = -2, NOT_POSSIBLE = -5, NONE = -6;
    private static final Due due = new Due();

    public static void main(String[] args) {
        undo();
        undoAll();
        undoMany();
        undoAgain();
        whatIsNoChange();
        save();
        slotsKeep();
        restore();
        due.end();
    }

    private static void undo() {
        KittenStairs x = new KittenStairs();
        due.is("nothing to undo", x.undo(), NOT_POSSIBLE);
        x.kitten(3);
        due.is("undo", x.undo(), 0);
        due.is("kittens", x.count(1), 0);
        due.is("nothing to undo", x.undo(), NOT_POSSIBLE);
        x.set(KittenStairs.LEAP, 3);
        due.is("a change by which nothing is different", x.undo(), 0);
        x.kitten(3);
        x.leap(0, 15);
        x.nap(4);
        x.restore(1);
        due.is("errors record nothing", x.count(16), 1);
    }

    /** Each kind of change is undone with all that it did, and with nothing that was done before it. */
    private static void undoAll() {
        KittenStairs x = busy();
        undoes(x, "set", Snapshot.of(x), x.set(KittenStairs.NAP, 30));
        x = busy();
        undoes(x, "kitten", Snapshot.of(x), x.kitten(7));
        x = busy();
        undoes(x, "leap", Snapshot.of(x), x.leap(0, -2));
        x = busy();
        undoes(x, "nap", Snapshot.of(x), x.nap(0));
        x = busy();
        undoes(x, "snip", Snapshot.of(x), x.snip(3, 0));
        x = busy();
        undoes(x, "plan", Snapshot.of(x), x.plan(1, 1, 1));
        x = busy();
        undoes(x, "pass", Snapshot.of(x), x.pass(9));
        x = busy();
        Due.write(x, "g0+1;t9");
        undoes(x, "carryOut", Snapshot.of(x), x.carryOut());
        x = new KittenStairs();
        x.save(0);
        x.kitten(3);
        undoes(x, "restore", Snapshot.of(x), x.restore(0));
        due.is("it can be restored still", x.restore(0), 0);
    }

    private static KittenStairs busy() {
        KittenStairs x = new KittenStairs();
        x.kitten(3);
        x.kitten(3);
        x.leap(0, 2);
        x.nap(1);
        x.plan(2, 0, -1);
        x.plan(3, 0, 9);
        return x;
    }

    private static void undoes(KittenStairs x, String change, String ahead, int answer) {
        due.holds("a change was made by " + change, answer >= 0);
        due.holds("something is different by " + change, !Snapshot.of(x).equals(ahead));
        x.undo();
        due.holds("all is as it was ahead of " + change, Snapshot.of(x).equals(ahead));
    }

    private static void undoMany() {
        KittenStairs x = new KittenStairs();
        for (int i = 1; i <= 9; i++) {
            x.pass(1);
            due.is("6 at most", x.count(16), Math.min(i, 6));
        }
        for (int left = 5; left >= 0; left--) {
            due.is("undo", x.undo(), left);
            due.is("turn", x.count(0), 3 + left);
        }
        due.is("no more", x.undo(), NOT_POSSIBLE);
        due.is("turn", x.count(0), 3);
    }

    private static void undoAgain() {
        KittenStairs x = new KittenStairs();
        for (int i = 0; i < 4; i++) x.pass(1);
        x.undo();
        x.undo();
        x.pass(10);
        due.is("recorded", x.count(16), 3);
        due.is("turn", x.count(0), 12);
        x.undo();
        due.is("turn ahead of it", x.count(0), 2);
        x.undo();
        due.is("turn ahead of that", x.count(0), 1);
        Due.write(x, "t1");
        x.undo();
        due.is("the pad stays", x.count(15), 2);
        due.is("turn at first", x.count(0), 0);
    }

    private static void whatIsNoChange() {
        KittenStairs x = new KittenStairs();
        x.kitten(3);
        Due.write(x, "k1");
        x.fault();
        x.wipe();
        x.save(0);
        x.quietIn();
        x.stepIn(0, 5);
        x.ifLeapt(0, 1, 0);
        due.is("one change", x.count(16), 1);
    }

    private static void save() {
        KittenStairs x = new KittenStairs();
        due.is("save(-1)", x.save(-1), BAD_VALUE);
        due.is("save(2)", x.save(2), BAD_VALUE);
        due.is("without kittens", x.save(0), 0);
        x.kitten(3);
        x.kitten(4);
        due.is("two kittens", x.save(1), 2);
        due.is("saving is no change", x.count(16), 2);
        x.kitten(5);
        due.is("overwritten", x.save(1), 3);
        x.undo();
        x.undo();
        due.is("the other slot stays", x.restore(0), 0);
        due.is("what was saved last", x.restore(1), 3);
        x.undo();
        due.is("undone", x.count(1), 0);
    }

    private static void slotsKeep() {
        KittenStairs x = new KittenStairs();
        x.kitten(3);
        x.leap(0, 2);
        x.plan(3, 0, 1);
        x.nap(0);
        x.set(KittenStairs.BIND, 7);
        x.pass(1);
        String saved = Snapshot.of(x);
        x.save(1);
        x.pass(20);
        x.snip(3, 0);
        x.kitten(0);
        Due.write(x, "k1;k");
        due.is("restore", x.restore(1), 1);
        due.holds("all is as it was saved", Snapshot.of(x).equals(saved));
        due.is("the pad stays", x.count(15), 4);
        x.leap(0, 1);
        x.pass(20);
        due.is("restore again", x.restore(1), 1);
        due.holds("the slot keeps it", Snapshot.of(x).equals(saved));
    }

    private static void restore() {
        KittenStairs x = new KittenStairs();
        due.is("restore(-1)", x.restore(-1), BAD_VALUE);
        due.is("restore(2)", x.restore(2), BAD_VALUE);
        due.is("nothing was saved", x.restore(0), NOT_POSSIBLE);
        x.kitten(3);
        x.save(0);
        due.is("nothing was saved in the other one", x.restore(1), NOT_POSSIBLE);
        due.is("errors record nothing", x.count(16), 1);
        x.kitten(4);
        due.is("restore", x.restore(0), 1);
        due.is("a change", x.count(16), 3);
        due.is("kittens", x.count(1), 1);
        x.undo();
        due.is("undone", x.count(1), 2);
        x.undo();
        x.undo();
        due.is("all undone", x.count(1), 0);
        due.is("the slots are not undone", x.restore(0), 1);
        due.is("the first kitten", x.of(0, 0), 3);
        due.is("no second one", x.of(1, 0), NO_SUCH);
        due.is("awake", x.of(0, 2), NONE);
    }
}
