import java.util.Random;

/** Compares the class with the model over runs of 512 calls at most, whose arguments are drawn from fixed seeds. */
public final class ModelTest {
    private static final int RUNS = 1000, CALLS = 512;
    // The most calls that one row of a run makes, and those of the look at all things behind its last row.
    private static final int CALLS_OF_A_ROW = 16, LAST_CALLS = 100;
    // Each run has a theme: how many of 100 calls leap, change something else, are about texts, and ask ...
    private static final int[][] SHARES = {{40, 20, 10, 15}, {75, 10, 2, 5}, {10, 60, 5, 15}, {5, 80, 2, 8}, {20, 20, 50, 5}};
    // ... and among which kinds of other changes it chooses, as change() names them.
    private static final String[] CHANGES = {"kksnxppttuvr", "kktttt", "kppppppppppt", "kntLLLLLLLLpu", "kksnxppttuvr"};
    private static final int TANGLES = 1, PAD = 4;
    private static final int[] EXTREMES = {Integer.MIN_VALUE, Integer.MIN_VALUE + 1, -100, -16, -1, 0, 16, 100, Integer.MAX_VALUE};
    private static final Due due = new Due();

    private final Random random;
    private final KittenStairs x = new KittenStairs();
    private final Model model = new Model();
    private final int run;
    // Some runs go on few steps, so that strands come to lie over one another.
    private final int lowest;
    private final int highest;
    private final boolean calm;
    private final int theme;
    private int leaps = 0;
    private int calls = 0;

    private ModelTest(int run) {
        this.run = run;
        random = new Random(run);
        lowest = random.nextInt(13);
        highest = run % 3 == 0 ? 15 : lowest + 1 + random.nextInt(2);
        calm = run % 4 != 0;
        theme = run % SHARES.length;
    }

    public static void main(String[] args) {
        for (int run = 0; run < RUNS; run++) new ModelTest(run).go();
        due.end();
    }

    private void go() {
        if (calm) {
            compare("set", x.set(3, 60), model.set(3, 60));
            compare("set", x.set(1, 15), model.set(1, 15));
        }
        while (calls + CALLS_OF_A_ROW + LAST_CALLS <= CALLS) {
            int[] shares = SHARES[theme];
            int kind = random.nextInt(100);
            if (kind < shares[0]) leap();
            else if (kind < shares[0] + shares[1]) change();
            else if (kind < shares[0] + shares[1] + shares[2]) text();
            else if (kind < shares[0] + shares[1] + shares[2] + shares[3]) ask();
            else whatIf();
        }
        lookAtAll();
        due.holds("run " + run + " is no longer than " + CALLS + ", it has " + calls, calls <= CALLS);
    }

    private void lookAtAll() {
        for (int what = 0; what <= 16; what++) compare("at last count(" + what + ")", x.count(what), model.count(what));
        int kittens = model.count(1);
        for (int k = 0; k < kittens; k++) {
            for (int what = 0; what <= 9; what++) compare("at last of(" + k + ", " + what + ")", x.of(k, what), model.of(k, what));
        }
        compare("at last undo()", x.undo(), model.undo());
        for (int what = 0; what <= 16; what++) compare("then count(" + what + ")", x.count(what), model.count(what));
    }

    private void compare(String call, int answered, int expected) {
        calls++;
        due.is("run " + run + ": " + call, answered, expected);
    }

    private boolean rarely() {
        return random.nextInt(40) == 0;
    }

    private int extreme() {
        return EXTREMES[random.nextInt(EXTREMES.length)];
    }

    private int below(int bound) {
        return rarely() ? extreme() : random.nextInt(bound);
    }

    private int kittenNumber() {
        int there = Math.max(1, model.count(1));
        return rarely() ? extreme() : random.nextInt(there + (rarely() ? 1 : 0));
    }

    private int edge() {
        if (rarely()) return extreme();
        return random.nextInt(4) == 0 ? random.nextInt(15) : lowest + random.nextInt(Math.max(1, highest - lowest));
    }

    /** Mostly steps that stay within the part of the stairs that is in use. */
    private int by(int kitten) {
        if (rarely()) return extreme();
        if (random.nextInt(6) == 0) return random.nextInt(31) - 15;
        int target = lowest + random.nextInt(Math.min(16, highest + 1) - lowest);
        int by = target - model.of(kitten, 0);
        return by == 0 ? 1 - 2 * random.nextInt(2) : by;
    }

    private void leap() {
        int k = kittenNumber();
        // Those that leap in turn wind nothing back, so that their balls get short.
        if (theme == TANGLES) k = leaps++ % Math.max(1, model.count(1));
        int by = by(k);
        compare("leap(" + k + ", " + by + ")", x.leap(k, by), model.leap(k, by));
    }

    private void change() {
        int k = kittenNumber();
        switch (CHANGES[theme].charAt(random.nextInt(CHANGES[theme].length()))) {
            case 'k' -> {
                int step = rarely() ? extreme() : lowest + random.nextInt(2);
                compare("kitten(" + step + ")", x.kitten(step), model.kitten(step));
            }
            case 's' -> {
                int setting = calm && !rarely() ? 2 : below(4);
                int value = below(20);
                compare("set(" + setting + ", " + value + ")", x.set(setting, value), model.set(setting, value));
            }
            case 'n' -> compare("nap(" + k + ")", x.nap(k), model.nap(k));
            case 'x' -> {
                int edge = edge();
                compare("snip(" + edge + ", " + k + ")", x.snip(edge, k), model.snip(edge, k));
            }
            case 'p' -> {
                int in = random.nextInt(3) == 0 ? below(101) : below(6);
                int by = by(k);
                compare("plan(" + in + ", " + k + ", " + by + ")", x.plan(in, k, by), model.plan(in, k, by));
            }
            case 't' -> {
                int turns = calm && !rarely() ? 20 + random.nextInt(80) : below(8);
                compare("pass(" + turns + ")", x.pass(turns), model.pass(turns));
            }
            case 'L' -> {
                int turns = random.nextInt(8) == 0 ? 1 + random.nextInt(3) : 99;
                compare("pass(" + turns + ")", x.pass(turns), model.pass(turns));
            }
            case 'u' -> compare("undo()", x.undo(), model.undo());
            case 'v' -> {
                int slot = below(2);
                compare("save(" + slot + ")", x.save(slot), model.save(slot));
            }
            default -> {
                int slot = below(2);
                if (random.nextInt(4) == 0) compare("restore(" + slot + ")", x.restore(slot), model.restore(slot));
            }
        }
    }

    private void text() {
        switch (random.nextInt(8)) {
            case 0 -> {
                if (theme != PAD || random.nextInt(4) == 0) compare("wipe()", x.wipe(), model.wipe());
            }
            case 1 -> compare("fault()", x.fault(), model.fault());
            case 2, 3 -> compare("carryOut()", x.carryOut(), model.carryOut());
            case 4 -> {
                long characters = random.nextInt(3) == 0 ? random.nextLong() : random.nextLong() >>> 8 * random.nextInt(8);
                compare("put(" + characters + ")", x.put(characters), model.put(characters));
            }
            default -> putOrder();
        }
    }

    private void putOrder() {
        if (theme != PAD && random.nextInt(4) != 0) compare("wipe()", x.wipe(), model.wipe());
        int orders = 1 + random.nextInt(5);
        StringBuilder text = new StringBuilder();
        for (int i = 0; i < orders; i++) text.append(i == 0 ? "" : ";").append(order());
        if (random.nextInt(6) == 0) text.setCharAt(random.nextInt(text.length()), "kgnxpt0123456789+-.:;!~".charAt(random.nextInt(23)));
        for (int from = 0; from < text.length(); from += 8) {
            long part = Scenes.packed(text.substring(from, Math.min(from + 8, text.length())));
            compare("put(" + part + ")", x.put(part), model.put(part));
        }
        compare("fault behind " + text, x.fault(), model.fault());
        if (theme != PAD || rarely()) compare("carryOut behind " + text, x.carryOut(), model.carryOut());
    }

    private String order() {
        int k = random.nextInt(Math.max(1, model.count(1)));
        String leap = k + (random.nextBoolean() ? "+" : "-") + (rarely() ? random.nextInt(110) : 1 + random.nextInt(2));
        return switch (random.nextInt(8)) {
            case 0 -> "k" + (rarely() ? random.nextInt(110) : lowest);
            case 1 -> "n" + k;
            case 2 -> "x" + (lowest + random.nextInt(2)) + "." + k;
            case 3 -> "p" + (rarely() ? random.nextInt(110) : 1 + random.nextInt(3)) + ":" + leap;
            case 4 -> "t" + (rarely() ? random.nextInt(110) : 1 + random.nextInt(20));
            default -> "g" + leap;
        };
    }

    private void ask() {
        int k = kittenNumber();
        int what = below(18);
        int edge = edge();
        int rank = below(12);
        switch (random.nextInt(6)) {
            case 0 -> compare("of(" + k + ", " + what + ")", x.of(k, what), model.of(k, what));
            case 1 -> compare("ofEdge(" + edge + ", " + what % 5 + ")", x.ofEdge(edge, what % 5), model.ofEdge(edge, what % 5));
            case 2 -> compare("strand(" + edge + ", " + rank + ")", x.strand(edge, rank), model.strand(edge, rank));
            case 3 -> {
                int other = kittenNumber();
                compare("bound(" + k + ", " + other + ")", x.bound(k, other), model.bound(k, other));
            }
            case 4 -> compare("planned(" + rank + ", " + what % 4 + ")", x.planned(rank, what % 4), model.planned(rank, what % 4));
            default -> compare("count(" + what + ")", x.count(what), model.count(what));
        }
    }

    private void whatIf() {
        int k = kittenNumber();
        int by = by(k);
        switch (random.nextInt(6)) {
            case 0 -> compare("why(" + k + ", " + by + ")", x.why(k, by), model.why(k, by));
            case 1 -> {
                int what = below(4);
                compare("ifLeapt(" + k + ", " + by + ", " + what + ")", x.ifLeapt(k, by, what), model.ifLeapt(k, by, what));
            }
            case 2 -> {
                int other = kittenNumber();
                compare("frees(" + k + ", " + other + ")", x.frees(k, other), model.frees(k, other));
            }
            case 3 -> compare("quietIn()", x.quietIn(), model.quietIn());
            case 4 -> {
                int turns = random.nextInt(4) == 0 ? below(101) : 1 + random.nextInt(6);
                compare("stepIn(" + k + ", " + turns + ")", x.stepIn(k, turns), model.stepIn(k, turns));
            }
            default -> compare("thickest()", x.thickest(), model.thickest());
        }
    }
}
