/** Promises 25 to 27: undo, save, restore. */
public final class HistoryTest {
    private static final int NO_SUCH = -1, BAD_VALUE = -2, NOT_POSSIBLE = -5, NONE = -6;
    private static final int LEAST = Integer.MIN_VALUE, MOST = Integer.MAX_VALUE;
    private static final Due due = new Due();

    public static void main(String[] args) {
        undoEachChange();
        undoNothing();
        undoSixStates();
        undoOldest();
        undoSixAgain();
        undoWithoutDifference();
        undoKeepsPad();
        undoKeepsSlots();
        undoErrors();
        undoIsNoChange();
        noChanges();
        saveReturnsKittens();
        saveNoSlot();
        saveOverwrites();
        saveWithoutPad();
        saveWithoutHistory();
        saveWithoutSlots();
        saveIsACopy();
        restoreReturnsKittens();
        restoreEverything();
        restoreKeepsTheSlot();
        restoreIsAChange();
        restoreNoSlot();
        restoreNothingSaved();
        restoreBothSlots();
        due.end();
    }

    /** Six kittens, of which the first and the last one have leapt. */
    private static KittenStairs busy() {
        KittenStairs x = Scenes.plain(3, 3, 0, 15, 9, 5);
        x.leap(0, 2);
        x.leap(5, -2);
        x.leap(0, -1);
        x.nap(1);
        x.plan(2, 0, -1);
        x.plan(3, 5, 9);
        return x;
    }

    /** Each kind of change is undone with all that it did, and with nothing that was done before it. */
    private static void undoEachChange() {
        due.sentence("Undoes the latest change: everything except the pad, the slots and the history is as it was before it.");
        for (int setting = 0; setting < 4; setting++) {
            KittenStairs x = busy();
            undoes(x, "set", Snapshot.of(x), x.set(setting, 7));
        }
        for (int k : new int[] {0, 5}) {
            KittenStairs x = busy();
            undoes(x, "leap up", Snapshot.of(x), x.leap(k, 2));
            x = busy();
            undoes(x, "leap down", Snapshot.of(x), x.leap(k, -1));
            x = busy();
            undoes(x, "nap", Snapshot.of(x), x.nap(k));
            x = busy();
            undoes(x, "snip", Snapshot.of(x), x.snip(3, k));
            x = busy();
            undoes(x, "plan", Snapshot.of(x), x.plan(1, k, 1));
        }
        KittenStairs x = busy();
        undoes(x, "pass", Snapshot.of(x), x.pass(9));
        x = busy();
        Scenes.write(x, "g5+1;t9;n4;x3.5;p9:0+1");
        undoes(x, "carryOut", Snapshot.of(x), x.carryOut());
        x = Scenes.plain(3);
        undoes(x, "kitten", Snapshot.of(x), x.kitten(7));
        x = busy();
        x.save(0);
        x.pass(9);
        x.snip(3, 5);
        undoes(x, "restore", Snapshot.of(x), x.restore(0));
    }

    private static void undoes(KittenStairs x, String change, String ahead, int answer) {
        int changes = x.count(16);
        due.holds("a change was made by " + change, answer >= 0);
        due.holds("something is different by " + change, !Snapshot.of(x).equals(ahead));
        due.is("changes that can be undone behind " + change, x.undo(), changes - 1);
        due.holds("all is as it was ahead of " + change, Snapshot.of(x).equals(ahead));
    }

    private static void undoNothing() {
        due.sentence("NOT_POSSIBLE if there is none.");
        KittenStairs x = new KittenStairs();
        due.is("at first", x.undo(), NOT_POSSIBLE);
        x.kitten(3);
        due.is("one", x.undo(), 0);
        due.is("kittens", x.count(1), 0);
        due.is("no more", x.undo(), NOT_POSSIBLE);
        due.is("kittens", x.count(1), 0);
        due.is("changes", x.count(16), 0);
        x.kitten(4);
        due.is("one again", x.undo(), 0);
    }

    private static void undoSixStates() {
        due.sentence("A history of at most 6 states is kept");
        for (int changes = 1; changes <= 16; changes++) {
            KittenStairs x = new KittenStairs();
            int kept = Math.min(changes, 6);
            for (int i = 1; i <= changes; i++) x.pass(1);
            due.is("6 at most", x.count(16), kept);
            for (int left = kept - 1; left >= 0; left--) {
                due.is("undo", x.undo(), left);
                due.is("how many then", x.count(16), left);
                due.is("turn", x.count(0), changes - kept + left);
            }
            due.is("no more", x.undo(), NOT_POSSIBLE);
            due.is("turn", x.count(0), changes - kept);
        }
    }

    private static void undoOldest() {
        due.sentence("when one more is recorded, the oldest one is dropped");
        KittenStairs x = new KittenStairs();
        x.set(KittenStairs.BIND, 0);
        for (int k = 0; k < 6; k++) due.is("kitten", x.kitten(k), k);
        due.is("seven changes", x.count(16), 6);
        for (int k = 5; k >= 0; k--) due.is("kittens", x.undo() == k ? x.count(1) : -9, k);
        due.is("the setting is not undone", x.undo(), NOT_POSSIBLE);
        due.is("it stays", x.count(12), 0);
    }

    private static void undoSixAgain() {
        due.sentence("Returns how many changes can be undone then");
        KittenStairs x = new KittenStairs();
        for (int i = 0; i < 4; i++) x.pass(1);
        due.is("three", x.undo(), 3);
        due.is("two", x.undo(), 2);
        x.pass(10);
        due.is("recorded", x.count(16), 3);
        due.is("turn", x.count(0), 12);
        due.is("undone", x.undo(), 2);
        due.is("turn ahead of it", x.count(0), 2);
        for (int i = 0; i < 5; i++) x.pass(10);
        due.is("six", x.count(16), 6);
        due.is("turn", x.count(0), 52);
        int[] turns = {42, 32, 22, 12, 2, 1};
        for (int i = 0; i < 6; i++) due.is("turn", x.undo() == 5 - i ? x.count(0) : -9, turns[i]);
        due.is("no more", x.undo(), NOT_POSSIBLE);
    }

    private static void undoWithoutDifference() {
        due.sentence("records the state before it (also if nothing is different then)");
        KittenStairs x = new KittenStairs();
        x.kitten(3);
        x.set(KittenStairs.LEAP, 3);
        due.is("a setting that it has", x.count(16), 2);
        due.is("undo", x.undo(), 1);
        due.is("the kitten is there", x.count(1), 1);
        x.save(0);
        x.restore(0);
        due.is("what is so already", x.count(16), 2);
        Scenes.write(x, "t0");
        x.carryOut();
        due.is("a text of which nothing is carried out", x.count(16), 3);
        due.is("undo", x.undo() + x.undo(), 2 + 1);
        due.is("the kitten is there still", x.count(1), 1);
        due.is("undo", x.undo(), 0);
        due.is("no kitten", x.count(1), 0);
    }

    private static void undoKeepsPad() {
        due.sentence("everything except the pad");
        KittenStairs x = new KittenStairs();
        Scenes.write(x, "k1");
        x.kitten(3);
        Scenes.write(x, ";k2");
        x.undo();
        due.is("what was written behind the change stays", x.count(15), 5);
        due.is("all of it", x.carryOut(), 2);
        x.undo();
        due.is("what was carried out is not written again", x.count(15), 0);
        Scenes.write(x, "k1");
        x.kitten(3);
        x.wipe();
        x.undo();
        due.is("what was wiped is not written again", x.count(15), 0);
    }

    private static void undoKeepsSlots() {
        due.sentence("everything except the pad, the slots");
        KittenStairs x = new KittenStairs();
        x.kitten(3);
        x.save(0);
        x.undo();
        due.is("no kitten", x.count(1), 0);
        due.is("what was saved behind the change stays", x.restore(0), 1);
        x.save(1);
        x.kitten(9);
        x.save(1);
        x.undo();
        due.is("one kitten", x.count(1), 1);
        due.is("what was overwritten stays so", x.restore(1), 2);
        x.undo();
        due.is("restoring is undone", x.count(1), 1);
        due.is("and can be done again", x.restore(1), 2);
    }

    private static void undoErrors() {
        due.sentence("each method that is a change, and returns no error, records the state before it");
        KittenStairs x = new KittenStairs();
        x.kitten(3);
        x.pass(1);
        int[] errors = {x.set(9, 9), x.kitten(16), x.leap(0, 15), x.leap(0, 0), x.nap(4), x.snip(0, 0), x.plan(0, 0, 1), x.pass(0),
            x.carryOut(), x.restore(1), x.restore(2)};
        for (int error : errors) due.holds("an error", error < 0 && error != NONE);
        due.is("errors record nothing", x.count(16), 2);
        x.undo();
        due.is("the turn is undone", x.count(0) * 10 + x.count(1), 1);
        x.leap(0, 15);
        x.undo();
        due.is("the kitten is undone", x.count(1), 0);
    }

    private static void undoIsNoChange() {
        due.sentence("Undoes the latest change");
        KittenStairs x = new KittenStairs();
        for (int i = 0; i < 3; i++) x.pass(1);
        x.undo();
        due.is("it is not recorded itself", x.count(16), 2);
        x.undo();
        due.is("the one before is undone next", x.count(0), 1);
    }

    private static void noChanges() {
        due.sentence("each method that is a change");
        KittenStairs x = Scenes.plain(3, 3);
        Scenes.write(x, "k1");
        x.fault();
        x.wipe();
        x.save(0);
        x.save(1);
        x.quietIn();
        x.stepIn(0, 5);
        x.ifLeapt(0, 1, 0);
        x.why(0, 1);
        x.frees(0, 1);
        x.thickest();
        x.bound(0, 1);
        x.of(0, 9);
        x.ofEdge(0, 3);
        due.is("two changes", x.count(16), 2);
        due.is("the second kitten is undone", x.undo() == 1 ? x.count(1) : -9, 1);
    }

    private static void saveReturnsKittens() {
        due.sentence("Returns how many kittens there are");
        KittenStairs x = new KittenStairs();
        for (int k = 0; k <= 6; k++) {
            due.is("slot 0", x.save(0), k);
            due.is("slot 1", x.save(1), k);
            x.kitten(k);
        }
        due.is("saving is no change", x.count(16), 6);
    }

    private static void saveNoSlot() {
        due.sentence("BAD_VALUE if there is no such slot.");
        KittenStairs x = new KittenStairs();
        for (int slot : new int[] {-1, 2, 3, LEAST, MOST}) due.is("save(" + slot + ")", x.save(slot), BAD_VALUE);
        due.is("nothing was saved in 0", x.restore(0), NOT_POSSIBLE);
        due.is("nothing was saved in 1", x.restore(1), NOT_POSSIBLE);
        due.is("0", x.save(0), 0);
        due.is("1", x.save(1), 0);
    }

    private static void saveOverwrites() {
        due.sentence("and overwrites what was saved there");
        KittenStairs x = new KittenStairs();
        x.kitten(3);
        x.leap(0, 3);
        x.plan(5, 0, 1);
        x.nap(0);
        x.save(0);
        x.save(1);
        x.kitten(4);
        due.is("two", x.save(1), 2);
        for (int i = 0; i < 5; i++) x.undo();
        due.is("none", x.save(1), 0);
        x.kitten(9);
        due.is("the slot is without kittens", x.restore(1), 0);
        due.is("and strands and plans", x.count(3) + x.count(10) + x.count(4), 0);
        due.is("the other slot stays", x.restore(0), 1);
        due.is("with its strands and plans", x.count(3) * 10 + x.count(10), 31);
    }

    private static void saveWithoutPad() {
        due.sentence("Saves everything except the pad");
        KittenStairs x = Scenes.written("k1");
        x.save(0);
        x.wipe();
        x.restore(0);
        due.is("the pad is not written again", x.count(15), 0);
        Scenes.write(x, "k2;k");
        x.restore(0);
        due.is("it stays as it is", x.count(15), 4);
        due.is("and can be gone on with", Scenes.write(x, "3") == 5 ? x.carryOut() : -9, 2);
    }

    private static void saveWithoutHistory() {
        due.sentence("Saves everything except the pad, the history");
        KittenStairs x = new KittenStairs();
        x.pass(1);
        x.save(0);
        x.pass(1);
        x.pass(1);
        x.restore(0);
        due.is("four changes", x.count(16), 4);
        int[] turns = {3, 2, 1, 0};
        for (int i = 0; i < 4; i++) due.is("turn", x.undo() == 3 - i ? x.count(0) : -9, turns[i]);
        due.is("no more", x.undo(), NOT_POSSIBLE);
        x.restore(0);
        due.is("one change", x.count(16), 1);
    }

    private static void saveWithoutSlots() {
        due.sentence("Saves everything except the pad, the history and the slots");
        KittenStairs x = new KittenStairs();
        x.save(0);
        x.kitten(3);
        x.save(1);
        x.restore(0);
        due.is("the other slot keeps what was saved later", x.restore(1), 1);
        x.kitten(4);
        x.save(0);
        x.restore(1);
        due.is("this one, too", x.restore(0), 2);
    }

    private static KittenStairs savedBusily(int slot) {
        KittenStairs x = busy();
        x.leap(5, 1);
        x.snip(4, 0);
        x.pass(2);
        x.nap(5);
        x.set(KittenStairs.BIND, 7);
        x.set(KittenStairs.LEAP, 8);
        x.set(KittenStairs.NAP, 9);
        x.set(KittenStairs.VIM, 33);
        x.save(slot);
        return x;
    }

    private static void saveIsACopy() {
        due.sentence("Saves everything");
        for (int slot = 0; slot < 2; slot++) {
            KittenStairs x = savedBusily(slot);
            String saved = Snapshot.of(x);
            x.pass(20);
            x.leap(0, 4);
            x.leap(5, 4);
            x.snip(3, 5);
            x.nap(4);
            x.plan(1, 0, 1);
            x.set(KittenStairs.VIM, 2);
            due.holds("all is different", !Snapshot.of(x).equals(saved));
            x.restore(slot);
            due.holds("all is as it was saved", Snapshot.of(x).equals(saved));
        }
    }

    private static void restoreReturnsKittens() {
        due.sentence("Returns how many kittens there are then");
        KittenStairs x = new KittenStairs();
        x.save(0);
        x.kitten(3);
        x.kitten(4);
        x.save(1);
        x.kitten(5);
        due.is("none", x.restore(0), 0);
        due.is("none of 0", x.of(0, 0), NO_SUCH);
        due.is("two", x.restore(1), 2);
        due.is("the second one", x.of(1, 0), 4);
        due.is("no third one", x.of(2, 0), NO_SUCH);
        due.is("awake", x.of(0, 2), NONE);
        x.save(0);
        x.undo();
        due.is("what was saved last", x.restore(0), 2);
    }

    private static void restoreEverything() {
        due.sentence("Restores what was saved last in a slot");
        KittenStairs x = savedBusily(1);
        x.undo();
        x.undo();
        String other = Snapshot.of(x);
        x.save(0);
        x.restore(1);
        due.is("VIM", x.count(14), 33);
        due.is("NAP", x.count(13), 9);
        due.is("the turn", x.count(0), 2);
        due.is("planned", x.count(10), 1);
        due.is("refused", x.count(9), 0);
        due.is("the last one naps", x.of(5, 2), 7);
        x.restore(0);
        due.holds("the other one", Snapshot.of(x).equals(other));
        due.is("what it leads to", x.pass(1), 0);
        due.is("the planned one is refused", x.count(9), 1);
    }

    private static void restoreKeepsTheSlot() {
        due.sentence("which keeps it");
        KittenStairs x = savedBusily(1);
        String saved = Snapshot.of(x);
        for (int i = 0; i < 2; i++) {
            due.is("restore", x.restore(1), 6);
            due.holds("all is as it was saved", Snapshot.of(x).equals(saved));
            x.pass(20);
            x.leap(0, 4);
            x.leap(5, 4);
            x.snip(3, 5);
            x.nap(1);
        }
    }

    private static void restoreIsAChange() {
        due.sentence("This is a change.");
        KittenStairs x = new KittenStairs();
        x.kitten(3);
        x.save(0);
        x.kitten(4);
        due.is("restore", x.restore(0), 1);
        due.is("recorded", x.count(16), 3);
        due.is("kittens", x.count(1), 1);
        x.undo();
        due.is("undone", x.count(1), 2);
        x.undo();
        x.undo();
        due.is("all undone", x.count(1), 0);
        due.is("the slot is not undone", x.restore(0), 1);
        due.is("the first kitten", x.of(0, 0), 3);
    }

    private static void restoreNoSlot() {
        due.sentence("BAD_VALUE if there is no such slot; NOT_POSSIBLE if nothing was saved in it.");
        KittenStairs x = new KittenStairs();
        x.save(0);
        x.save(1);
        for (int slot : new int[] {-1, 2, 3, LEAST, MOST}) due.is("restore(" + slot + ")", x.restore(slot), BAD_VALUE);
        due.is("nothing is recorded", x.count(16), 0);
    }

    private static void restoreNothingSaved() {
        due.sentence("NOT_POSSIBLE if nothing was saved in it.");
        KittenStairs x = new KittenStairs();
        due.is("0", x.restore(0), NOT_POSSIBLE);
        due.is("1", x.restore(1), NOT_POSSIBLE);
        x.kitten(3);
        x.save(0);
        due.is("nothing was saved in 1", x.restore(1), NOT_POSSIBLE);
        due.is("errors record nothing", x.count(16), 1);
        x = new KittenStairs();
        x.save(1);
        due.is("nothing was saved in 0", x.restore(0), NOT_POSSIBLE);
        due.is("without kittens in 1, but saved", x.restore(1), 0);
    }

    private static void restoreBothSlots() {
        due.sentence("0 or 1");
        KittenStairs x = new KittenStairs();
        x.pass(5);
        x.save(0);
        x.pass(6);
        x.save(1);
        for (int i = 0; i < 10; i++) {
            x.restore(i % 2);
            due.is("turn", x.count(0), i % 2 == 0 ? 5 : 11);
        }
        for (int i = 1; i <= 5; i++) due.is("undone", x.undo() == 6 - i ? x.count(0) : -9, i % 2 == 0 ? 11 : 5);
    }
}
