import java.util.ArrayDeque;
import java.util.ArrayList;
import java.util.Comparator;
import java.util.Deque;
import java.util.List;
import java.util.regex.Matcher;
import java.util.regex.Pattern;

/** The document once more, written for plainness alone and in other ways than the class: what both answer is compared. */
final class Model {
    private static final int NO_SUCH = -1, BAD_VALUE = -2, BAD_TEXT = -3, TOO_MANY = -4, NOT_POSSIBLE = -5, NONE = -6;
    private static final Pattern TEXT;
    private static final Pattern ORDER = Pattern.compile("([a-z])(\\d+)(?:[.:](\\d))?([+-]\\d+)?");

    static {
        String number = "(?:0|[1-9]\\d?)";
        String by = "[+-]" + number;
        String order = "(?:[kt]" + number + "|g\\d" + by + "|n\\d|x" + number + "\\.\\d|p" + number + ":\\d" + by + ")";
        TEXT = Pattern.compile(order + "(?:;" + order + ")*");
    }

    private record Plan(int turn, int kitten, int by) {
    }

    private static final class Cat {
        int step;
        int vim;
        int wakes = NONE;
        int laid;
        int wound;
        int snipped;

        Cat copied() {
            Cat copy = new Cat();
            copy.step = step;
            copy.vim = vim;
            copy.wakes = wakes;
            copy.laid = laid;
            copy.wound = wound;
            copy.snipped = snipped;
            return copy;
        }

        int ball() {
            return 40 - laid + wound;
        }
    }

    private static final class State {
        int[] settings = {3, 4, 5, 14};
        int turn;
        int made;
        int refused;
        List<Cat> cats = new ArrayList<>();
        List<List<Integer>> edges = new ArrayList<>();
        List<Plan> plans = new ArrayList<>();

        State() {
            for (int edge = 0; edge < 15; edge++) edges.add(new ArrayList<>());
        }

        State copied() {
            State copy = new State();
            copy.settings = settings.clone();
            copy.turn = turn;
            copy.made = made;
            copy.refused = refused;
            for (Cat cat : cats) copy.cats.add(cat.copied());
            for (int edge = 0; edge < 15; edge++) copy.edges.get(edge).addAll(edges.get(edge));
            copy.plans.addAll(plans);
            return copy;
        }

        boolean has(int k) {
            return 0 <= k && k < cats.size();
        }

        boolean boundAt(int edge, int a, int b) {
            return isBetween(edge, a, b) || isBetween(edge, b, a);
        }

        /** Whether a strand of one lies between two of the other. */
        private boolean isBetween(int edge, int inner, int outer) {
            List<Integer> all = edges.get(edge);
            int first = all.indexOf(outer);
            int last = all.lastIndexOf(outer);
            return first >= 0 && all.subList(first, last + 1).contains(inner);
        }

        int bound(int a, int b) {
            int set = 0;
            for (int edge = 0; edge < 15; edge++) if (boundAt(edge, a, b)) set |= 1 << edge;
            return set;
        }

        int boundTo(int a) {
            int set = 0;
            for (int b = 0; b < cats.size(); b++) if (a != b && bound(a, b) != 0) set |= 1 << b;
            return set;
        }

        int why(int k, int by) {
            Cat cat = cats.get(k);
            int then = cat.step + by;
            if (cat.wakes != NONE) return 1;
            if (then < 0 || then > 15) return 2;
            if (by > 0 ? by > settings[0] : -by > 2 * settings[0]) return 3;
            if (cat.vim < (by > 0 ? 2 * by : -by)) return 4;
            for (int o = 0; o < cats.size(); o++) {
                int apart = Math.abs(cats.get(o).step - then);
                boolean farther = apart > Math.abs(cats.get(o).step - cat.step);
                if (o != k && farther && apart > settings[1] && bound(k, o) != 0) return 5;
            }
            return copied().leapt(k, by) ? 0 : 6;
        }

        /** Leaps step by step; false if the ball was too short on the way. */
        boolean leapt(int k, int by) {
            Cat cat = cats.get(k);
            int target = cat.step + by;
            while (cat.step != target) {
                int edge = by > 0 ? cat.step : cat.step - 1;
                List<Integer> strands = edges.get(edge);
                if (!strands.isEmpty() && strands.get(strands.size() - 1) == k) {
                    strands.remove(strands.size() - 1);
                    cat.wound++;
                } else {
                    if (cat.ball() == 0) return false;
                    strands.add(k);
                    cat.laid++;
                }
                cat.step += by > 0 ? 1 : -1;
                cat.vim -= by > 0 ? 2 : 1;
            }
            made++;
            return true;
        }

        int turns(int turns) {
            int before = made;
            for (int i = 0; i < turns; i++) {
                turn++;
                for (Cat cat : cats) {
                    if (cat.wakes == turn) {
                        cat.wakes = NONE;
                        cat.vim = settings[3];
                    }
                }
                for (int k = 0; k < cats.size(); k++) {
                    for (Plan plan : plans) {
                        if (plan.turn != turn || plan.kitten != k) continue;
                        if (why(k, plan.by) == 0) leapt(k, plan.by);
                        else refused++;
                    }
                }
                plans.removeIf(plan -> plan.turn == turn);
                for (Cat cat : cats) if (cat.wakes == NONE && cat.vim < settings[3]) cat.vim++;
            }
            return made - before;
        }
    }

    private State now = new State();
    private final Deque<State> history = new ArrayDeque<>();
    private final State[] slots = new State[2];
    private String pad = "";

    private static boolean isBy(int by) {
        return by != 0 && Math.abs((long) by) <= 15;
    }

    private static boolean isIn(int value, int least, int most) {
        return least <= value && value <= most;
    }

    private int recorded(State before, int answer) {
        if (answer < 0) return answer;
        history.addLast(before);
        if (history.size() > 6) history.removeFirst();
        return answer;
    }

    int set(int setting, int value) {
        State before = now.copied();
        return recorded(before, doSet(setting, value));
    }

    private int doSet(int setting, int value) {
        int[][] range = {{1, 8}, {0, 15}, {1, 30}, {2, 60}};
        if (!isIn(setting, 0, 3) || !isIn(value, range[setting][0], range[setting][1])) return BAD_VALUE;
        int before = now.settings[setting];
        now.settings[setting] = value;
        return before;
    }

    int kitten(int step) {
        State before = now.copied();
        return recorded(before, doKitten(step));
    }

    private int doKitten(int step) {
        if (!isIn(step, 0, 15)) return NO_SUCH;
        if (now.cats.size() == 6) return TOO_MANY;
        Cat cat = new Cat();
        cat.step = step;
        cat.vim = now.settings[3];
        now.cats.add(cat);
        return now.cats.size() - 1;
    }

    int leap(int kitten, int by) {
        State before = now.copied();
        return recorded(before, doLeap(kitten, by));
    }

    private int doLeap(int kitten, int by) {
        if (!now.has(kitten)) return NO_SUCH;
        if (!isBy(by)) return BAD_VALUE;
        if (now.why(kitten, by) != 0) return NOT_POSSIBLE;
        now.leapt(kitten, by);
        return now.cats.get(kitten).step;
    }

    int nap(int kitten) {
        State before = now.copied();
        return recorded(before, doNap(kitten));
    }

    private int doNap(int kitten) {
        if (!now.has(kitten)) return NO_SUCH;
        Cat cat = now.cats.get(kitten);
        if (cat.wakes != NONE) return NOT_POSSIBLE;
        cat.wakes = now.turn + now.settings[2];
        return cat.wakes;
    }

    int snip(int edge, int kitten) {
        State before = now.copied();
        return recorded(before, doSnip(edge, kitten));
    }

    private int doSnip(int edge, int kitten) {
        if (!isIn(edge, 0, 14) || !now.has(kitten)) return NO_SUCH;
        int before = now.edges.get(edge).size();
        now.edges.get(edge).removeIf(k -> k == kitten);
        int gone = before - now.edges.get(edge).size();
        now.cats.get(kitten).snipped += gone;
        return gone == 0 ? NOT_POSSIBLE : gone;
    }

    int plan(int in, int kitten, int by) {
        State before = now.copied();
        return recorded(before, doPlan(in, kitten, by));
    }

    private int doPlan(int in, int kitten, int by) {
        if (!now.has(kitten)) return NO_SUCH;
        if (!isIn(in, 1, 99) || !isBy(by)) return BAD_VALUE;
        if (now.plans.size() == 16) return TOO_MANY;
        now.plans.add(new Plan(now.turn + in, kitten, by));
        return now.plans.size();
    }

    int pass(int turns) {
        State before = now.copied();
        return recorded(before, doPass(turns));
    }

    private int doPass(int turns) {
        if (!isIn(turns, 1, 99)) return BAD_VALUE;
        if (now.turn + turns > 9999) return NOT_POSSIBLE;
        return now.turns(turns);
    }

    int of(int kitten, int what) {
        if (!now.has(kitten)) return NO_SUCH;
        Cat cat = now.cats.get(kitten);
        int lying = 0;
        for (List<Integer> edge : now.edges) for (int k : edge) if (k == kitten) lying++;
        int reach = 0;
        for (int by = -15; by <= 15; by++) if (by != 0 && now.why(kitten, by) == 0) reach |= 1 << cat.step + by;
        int[] all = {cat.step, cat.vim, cat.wakes, cat.ball(), lying, cat.laid, cat.wound, cat.snipped, now.boundTo(kitten), reach};
        return isIn(what, 0, 9) ? all[what] : BAD_VALUE;
    }

    int ofEdge(int edge, int what) {
        if (!isIn(edge, 0, 14)) return NO_SUCH;
        List<Integer> strands = now.edges.get(edge);
        int set = 0;
        for (int k : strands) set |= 1 << k;
        int pairs = 0;
        for (int a = 0; a < 6; a++) for (int b = 0; b < a; b++) if (now.boundAt(edge, a, b)) pairs++;
        int[] all = {strands.size(), strands.isEmpty() ? NONE : strands.get(strands.size() - 1), set, pairs};
        return isIn(what, 0, 3) ? all[what] : BAD_VALUE;
    }

    int strand(int edge, int rank) {
        if (!isIn(edge, 0, 14) || !isIn(rank, 0, now.edges.get(edge).size() - 1)) return NO_SUCH;
        return now.edges.get(edge).get(rank);
    }

    int bound(int kitten, int other) {
        if (!now.has(kitten) || !now.has(other)) return NO_SUCH;
        return kitten == other ? BAD_VALUE : now.bound(kitten, other);
    }

    int planned(int rank, int what) {
        if (!isIn(rank, 0, now.plans.size() - 1)) return NO_SUCH;
        List<Plan> sorted = new ArrayList<>(now.plans);
        sorted.sort(Comparator.comparingInt(Plan::turn).thenComparingInt(Plan::kitten));
        Plan plan = sorted.get(rank);
        int[] all = {plan.turn, plan.kitten, plan.by + 100};
        return isIn(what, 0, 2) ? all[what] : BAD_VALUE;
    }

    int count(int what) {
        int naps = 0;
        int lying = 0;
        int laid = 0;
        int wound = 0;
        int snipped = 0;
        int pairs = 0;
        for (List<Integer> edge : now.edges) lying += edge.size();
        for (int k = 0; k < now.cats.size(); k++) {
            Cat cat = now.cats.get(k);
            if (cat.wakes != NONE) naps |= 1 << k;
            laid += cat.laid;
            wound += cat.wound;
            snipped += cat.snipped;
            pairs += Integer.bitCount(now.boundTo(k));
        }
        int[] all = {now.turn, now.cats.size(), naps, lying, laid, wound, snipped, pairs / 2, now.made, now.refused,
            now.plans.size(), now.settings[0], now.settings[1], now.settings[2], now.settings[3], pad.length(), history.size()};
        return isIn(what, 0, 16) ? all[what] : BAD_VALUE;
    }

    int why(int kitten, int by) {
        if (!now.has(kitten)) return NO_SUCH;
        return isBy(by) ? now.why(kitten, by) : BAD_VALUE;
    }

    int ifLeapt(int kitten, int by, int what) {
        if (!now.has(kitten)) return NO_SUCH;
        if (!isBy(by) || !isIn(what, 0, 3)) return BAD_VALUE;
        if (now.why(kitten, by) != 0) return NOT_POSSIBLE;
        State then = now.copied();
        then.leapt(kitten, by);
        int before = now.boundTo(kitten);
        int after = then.boundTo(kitten);
        int[] all = {then.cats.get(kitten).laid - now.cats.get(kitten).laid, then.cats.get(kitten).wound - now.cats.get(kitten).wound,
            after & ~before, before & ~after};
        return all[what];
    }

    int frees(int kitten, int other) {
        if (!now.has(kitten) || !now.has(other)) return NO_SUCH;
        if (kitten == other) return BAD_VALUE;
        int gone = 0;
        for (List<Integer> edge : now.edges) {
            List<Integer> both = new ArrayList<>(edge);
            both.removeIf(k -> k != kitten && k != other);
            gone += both.size() <= 12 ? fewestOfAll(both, kitten, other) : fewestBySplit(both, kitten, other);
        }
        return gone;
    }

    /** Tries each choice of strands that stay. */
    private static int fewestOfAll(List<Integer> both, int a, int b) {
        int most = 0;
        for (int choice = 0; choice < 1 << both.size(); choice++) {
            State alone = new State();
            for (int i = 0; i < both.size(); i++) if ((choice >> i & 1) != 0) alone.edges.get(0).add(both.get(i));
            if (Integer.bitCount(choice) > most && !alone.boundAt(0, a, b)) most = Integer.bitCount(choice);
        }
        return both.size() - most;
    }

    /** Tries each place below which only one's stay, and above which only the other's. */
    private static int fewestBySplit(List<Integer> both, int a, int b) {
        int fewest = both.size();
        for (int split = 0; split <= both.size(); split++) {
            int ofA = 0;
            for (int i = 0; i < both.size(); i++) if ((both.get(i) == a) == (i < split)) ofA++;
            fewest = Math.min(fewest, Math.min(ofA, both.size() - ofA));
        }
        return fewest;
    }

    int quietIn() {
        State then = now.copied();
        int turns = 0;
        while (!then.plans.isEmpty() || then.cats.stream().anyMatch(cat -> cat.wakes != NONE)) {
            then.turns(1);
            turns++;
        }
        return turns;
    }

    int stepIn(int kitten, int turns) {
        if (!now.has(kitten)) return NO_SUCH;
        if (!isIn(turns, 1, 99)) return BAD_VALUE;
        State then = now.copied();
        then.turns(turns);
        return then.cats.get(kitten).step;
    }

    int thickest() {
        int best = 0;
        for (int edge = 1; edge < 15; edge++) if (now.edges.get(edge).size() > now.edges.get(best).size()) best = edge;
        return now.edges.get(best).isEmpty() ? NONE : best;
    }

    int put(long characters) {
        String text = "";
        long rest = characters;
        while ((rest & 255) != 0) {
            text = (char) (rest & 255) + text;
            rest >>>= 8;
        }
        if (rest != 0 || !text.matches("[!-~]+")) return BAD_VALUE;
        if (pad.length() + text.length() > 80) return TOO_MANY;
        pad += text;
        return pad.length();
    }

    int wipe() {
        int before = pad.length();
        pad = "";
        return before;
    }

    /** A character can stand at its place if the text up to it can be gone on with. */
    int fault() {
        for (int end = 1; end <= pad.length(); end++) {
            Matcher matcher = TEXT.matcher(pad.substring(0, end));
            if (!matcher.matches() && !matcher.hitEnd()) return end - 1;
        }
        return TEXT.matcher(pad).matches() ? NONE : pad.length();
    }

    int carryOut() {
        if (fault() != NONE) return BAD_TEXT;
        State before = now.copied();
        int done = 0;
        for (String order : pad.split(";")) {
            if (carriedOut(order) < 0) break;
            done++;
        }
        pad = "";
        return recorded(before, done);
    }

    private int carriedOut(String order) {
        char letter = order.charAt(0);
        if (letter == 'g') return doLeap(order.charAt(1) - '0', Integer.parseInt(order.substring(2)));
        Matcher matcher = ORDER.matcher(order);
        if (!matcher.matches()) return BAD_TEXT;
        int number = Integer.parseInt(matcher.group(2));
        if (letter == 'k') return doKitten(number);
        if (letter == 'n') return doNap(number);
        if (letter == 't') return doPass(number);
        int kitten = Integer.parseInt(matcher.group(3));
        return letter == 'x' ? doSnip(number, kitten) : doPlan(number, kitten, Integer.parseInt(matcher.group(4)));
    }

    int undo() {
        if (history.isEmpty()) return NOT_POSSIBLE;
        now = history.removeLast();
        return history.size();
    }

    int save(int slot) {
        if (!isIn(slot, 0, 1)) return BAD_VALUE;
        slots[slot] = now.copied();
        return now.cats.size();
    }

    int restore(int slot) {
        if (!isIn(slot, 0, 1)) return BAD_VALUE;
        if (slots[slot] == null) return NOT_POSSIBLE;
        State before = now;
        now = slots[slot].copied();
        return recorded(before, now.cats.size());
    }
}
