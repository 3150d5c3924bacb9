/**
 * Kittens that leap up and down a staircase and lay strands of yarn, by which two of them may come to be bound.
 * The document's promises say what each public method answers.
 */
public final class KittenStairs {
    public static final int NO_SUCH = -1, BAD_VALUE = -2, BAD_TEXT = -3, TOO_MANY = -4, NOT_POSSIBLE = -5, NONE = -6;
    public static final int LEAP = 0, BIND = 1, NAP = 2, VIM = 3;

    private static final int SETTINGS = 4;
    private static final int[] LOWEST = {1, 0, 1, 2};
    private static final int[] HIGHEST = {8, 15, 30, 60};
    private static final int[] FIRST_VALUE = {3, 4, 5, 14};

    private static final int STEPS = 16, EDGES = STEPS - 1;
    private static final int MAX_KITTENS = 6, BALL = 40, MAX_STRANDS = MAX_KITTENS * BALL;
    private static final int FARTHEST = STEPS - 1;
    private static final int MAX_PLANS = 16, BY_SHIFT = 100;
    private static final int MAX_TURNS = 99, LAST_TURN = 9999;
    private static final int MAX_SIGNS = 80, SIGNS_PER_PUT = 8, LOWEST_SIGN = 33, HIGHEST_SIGN = 126;
    // An order has two characters at least, and a ';' between it and the next one.
    private static final int MAX_ORDERS = (MAX_SIGNS + 1) / 3, PARTS = 3;
    private static final int MAX_UNDO = 6, SLOTS = 2;

    private final Stairs now = new Stairs();
    // Where a leap or turns are tried out, so that nothing changes.
    private final Stairs trial = new Stairs();
    private final History history = new History();
    private final Stairs[] slots = new Stairs[SLOTS];
    private final Pad pad = new Pad();
    private final Orders orders = new Orders();

    public KittenStairs() {
    }

    // ---- changes

    public int set(int setting, int value) {
        history.draft(now);
        return settled(now.changeSetting(setting, value));
    }

    public int kitten(int step) {
        history.draft(now);
        return settled(now.addKitten(step));
    }

    public int leap(int kitten, int by) {
        history.draft(now);
        return settled(now.tryLeap(kitten, by));
    }

    public int nap(int kitten) {
        history.draft(now);
        return settled(now.beginNap(kitten));
    }

    public int snip(int edge, int kitten) {
        history.draft(now);
        return settled(now.snipStrands(edge, kitten));
    }

    public int plan(int in, int kitten, int by) {
        history.draft(now);
        return settled(now.planLeap(in, kitten, by));
    }

    public int pass(int turns) {
        history.draft(now);
        return settled(now.passTurns(turns));
    }

    // ---- what there is

    public int of(int kitten, int what) {
        if (!now.hasKitten(kitten)) return NO_SUCH;
        switch (what) {
            case 0: return now.step[kitten];
            case 1: return now.vim[kitten];
            case 2: return now.wakes[kitten];
            case 3: return now.ball[kitten];
            case 4: return now.yarn.lyingOf(kitten);
            case 5: return now.laid[kitten];
            case 6: return now.wound[kitten];
            case 7: return now.snipped[kitten];
            case 8: return now.boundSet(kitten);
            case 9: return now.reachSet(kitten);
            default: return BAD_VALUE;
        }
    }

    public int ofEdge(int edge, int what) {
        if (!isEdge(edge)) return NO_SUCH;
        switch (what) {
            case 0: return now.yarn.lyingAt(edge);
            case 1: return now.yarn.topOwner(edge);
            case 2: return now.yarn.ownerSetAt(edge);
            case 3: return now.boundPairs(1 << edge);
            default: return BAD_VALUE;
        }
    }

    public int strand(int edge, int rank) {
        if (!isEdge(edge)) return NO_SUCH;
        return now.yarn.ownerAt(edge, rank);
    }

    public int bound(int kitten, int other) {
        if (!now.hasKitten(kitten) || !now.hasKitten(other)) return NO_SUCH;
        if (kitten == other) return BAD_VALUE;
        return now.yarn.boundEdgeSet(kitten, other);
    }

    public int planned(int rank, int what) {
        if (rank < 0 || rank >= now.plans.size) return NO_SUCH;
        switch (what) {
            case 0: return now.plans.turns[rank];
            case 1: return now.plans.kittens[rank];
            case 2: return now.plans.bys[rank] + BY_SHIFT;
            default: return BAD_VALUE;
        }
    }

    public int count(int what) {
        switch (what) {
            case 0: return now.turn;
            case 1: return now.kittens;
            case 2: return now.nappingSet();
            case 3: return now.yarn.lying;
            case 4: return now.sumOfAll(now.laid);
            case 5: return now.sumOfAll(now.wound);
            case 6: return now.sumOfAll(now.snipped);
            case 7: return now.boundPairs((1 << EDGES) - 1);
            case 8: return now.leapsMade;
            case 9: return now.plansRefused;
            case 10: return now.plans.size;
            case 11: return now.settings[LEAP];
            case 12: return now.settings[BIND];
            case 13: return now.settings[NAP];
            case 14: return now.settings[VIM];
            case 15: return pad.length;
            case 16: return history.size;
            default: return BAD_VALUE;
        }
    }

    // ---- what if; nothing changes

    public int why(int kitten, int by) {
        if (!now.hasKitten(kitten)) return NO_SUCH;
        if (!isLeap(by)) return BAD_VALUE;
        return now.refusal(kitten, by);
    }

    public int ifLeapt(int kitten, int by, int what) {
        if (!now.hasKitten(kitten)) return NO_SUCH;
        if (!isLeap(by) || what < 0 || what > 3) return BAD_VALUE;
        if (now.refusal(kitten, by) != 0) return NOT_POSSIBLE;
        trial.copyFrom(now);
        trial.makeLeap(kitten, by);
        switch (what) {
            case 0: return trial.laid[kitten] - now.laid[kitten];
            case 1: return trial.wound[kitten] - now.wound[kitten];
            case 2: return trial.boundSet(kitten) & ~now.boundSet(kitten);
            default: return now.boundSet(kitten) & ~trial.boundSet(kitten);
        }
    }

    public int frees(int kitten, int other) {
        if (!now.hasKitten(kitten) || !now.hasKitten(other)) return NO_SUCH;
        if (kitten == other) return BAD_VALUE;
        int gone = 0;
        for (int edge = 0; edge < EDGES; edge++) gone += now.yarn.fewestGone(edge, kitten, other);
        return gone;
    }

    public int quietIn() {
        int last = Math.max(now.lastWaking(), now.plans.lastTurn());
        return Math.max(last - now.turn, 0);
    }

    public int stepIn(int kitten, int turns) {
        if (!now.hasKitten(kitten)) return NO_SUCH;
        if (turns < 1 || turns > MAX_TURNS) return BAD_VALUE;
        trial.copyFrom(now);
        for (int i = 0; i < turns; i++) trial.passOneTurn();
        return trial.step[kitten];
    }

    public int thickest() {
        int best = NONE;
        int most = 0;
        for (int edge = 0; edge < EDGES; edge++) {
            int lying = now.yarn.lyingAt(edge);
            if (lying > most) {
                most = lying;
                best = edge;
            }
        }
        return best;
    }

    // ---- texts

    public int put(long characters) {
        return pad.append(characters);
    }

    public int wipe() {
        return pad.empty();
    }

    public int fault() {
        return orders.read(pad);
    }

    public int carryOut() {
        if (orders.read(pad) != NONE) return BAD_TEXT;
        history.draft(now);
        int done = 0;
        while (done < orders.size && carryOneOut(done) >= 0) done++;
        pad.empty();
        return settled(done);
    }

    // ---- undo, saving

    public int undo() {
        if (history.size == 0) return NOT_POSSIBLE;
        history.takeBack(now);
        return history.size;
    }

    public int save(int slot) {
        if (slot < 0 || slot >= SLOTS) return BAD_VALUE;
        roomAt(slots, slot).copyFrom(now);
        return now.kittens;
    }

    public int restore(int slot) {
        if (slot < 0 || slot >= SLOTS) return BAD_VALUE;
        Stairs saved = slots[slot];
        if (saved == null) return NOT_POSSIBLE;
        history.draft(now);
        now.copyFrom(saved);
        return settled(now.kittens);
    }

    // ---- helpers

    /** A call that returns an error records nothing: its draft is overwritten by the next one. */
    private int settled(int answer) {
        if (answer >= 0) history.keepDraft();
        return answer;
    }

    private int carryOneOut(int order) {
        int first = orders.part(order, 0);
        int second = orders.part(order, 1);
        int third = orders.part(order, 2);
        switch (orders.letter(order)) {
            case 'k': return now.addKitten(first);
            case 'g': return now.tryLeap(first, second);
            case 'n': return now.beginNap(first);
            case 'x': return now.snipStrands(first, second);
            case 'p': return now.planLeap(first, second, third);
            case 't': return now.passTurns(first);
            default: return BAD_TEXT;
        }
    }

    private static boolean isEdge(int edge) {
        return edge >= 0 && edge < EDGES;
    }

    private static boolean isLeap(int by) {
        return by >= -FARTHEST && by <= FARTHEST && by != 0;
    }

    // A state is made when it is wanted first, and used again from then on.
    private static Stairs roomAt(Stairs[] rooms, int place) {
        Stairs room = rooms[place];
        if (room == null) {
            room = new Stairs();
            rooms[place] = room;
        }
        return room;
    }

    /** All that undo() brings back and save() keeps. */
    private static final class Stairs {
        final int[] settings = new int[SETTINGS];
        int turn = 0;
        int kittens = 0;
        int leapsMade = 0;
        int plansRefused = 0;
        final int[] step = new int[MAX_KITTENS];
        final int[] vim = new int[MAX_KITTENS];
        /** The turn in which a kitten wakes up, NONE if it is awake. */
        final int[] wakes = new int[MAX_KITTENS];
        final int[] ball = new int[MAX_KITTENS];
        final int[] laid = new int[MAX_KITTENS];
        final int[] wound = new int[MAX_KITTENS];
        final int[] snipped = new int[MAX_KITTENS];
        final Yarn yarn = new Yarn();
        final Plans plans = new Plans();

        Stairs() {
            System.arraycopy(FIRST_VALUE, 0, settings, 0, SETTINGS);
        }

        void copyFrom(Stairs other) {
            System.arraycopy(other.settings, 0, settings, 0, SETTINGS);
            turn = other.turn;
            kittens = other.kittens;
            leapsMade = other.leapsMade;
            plansRefused = other.plansRefused;
            System.arraycopy(other.step, 0, step, 0, MAX_KITTENS);
            System.arraycopy(other.vim, 0, vim, 0, MAX_KITTENS);
            System.arraycopy(other.wakes, 0, wakes, 0, MAX_KITTENS);
            System.arraycopy(other.ball, 0, ball, 0, MAX_KITTENS);
            System.arraycopy(other.laid, 0, laid, 0, MAX_KITTENS);
            System.arraycopy(other.wound, 0, wound, 0, MAX_KITTENS);
            System.arraycopy(other.snipped, 0, snipped, 0, MAX_KITTENS);
            yarn.copyFrom(other.yarn);
            plans.copyFrom(other.plans);
        }

        boolean hasKitten(int kitten) {
            return kitten >= 0 && kitten < kittens;
        }

        int changeSetting(int setting, int value) {
            if (setting < 0 || setting >= SETTINGS) return BAD_VALUE;
            if (value < LOWEST[setting] || value > HIGHEST[setting]) return BAD_VALUE;
            int previous = settings[setting];
            settings[setting] = value;
            return previous;
        }

        int addKitten(int where) {
            if (where < 0 || where >= STEPS) return NO_SUCH;
            if (kittens >= MAX_KITTENS) return TOO_MANY;
            int kitten = kittens;
            step[kitten] = where;
            vim[kitten] = settings[VIM];
            wakes[kitten] = NONE;
            ball[kitten] = BALL;
            laid[kitten] = 0;
            wound[kitten] = 0;
            snipped[kitten] = 0;
            kittens++;
            return kitten;
        }

        int tryLeap(int kitten, int by) {
            if (!hasKitten(kitten)) return NO_SUCH;
            if (!isLeap(by)) return BAD_VALUE;
            if (refusal(kitten, by) != 0) return NOT_POSSIBLE;
            makeLeap(kitten, by);
            return step[kitten];
        }

        int beginNap(int kitten) {
            if (!hasKitten(kitten)) return NO_SUCH;
            if (naps(kitten)) return NOT_POSSIBLE;
            wakes[kitten] = turn + settings[NAP];
            return wakes[kitten];
        }

        int snipStrands(int edge, int kitten) {
            if (!isEdge(edge) || !hasKitten(kitten)) return NO_SUCH;
            int gone = yarn.removeAll(edge, kitten);
            if (gone == 0) return NOT_POSSIBLE;
            snipped[kitten] += gone;
            return gone;
        }

        int planLeap(int in, int kitten, int by) {
            if (!hasKitten(kitten)) return NO_SUCH;
            if (in < 1 || in > MAX_TURNS || !isLeap(by)) return BAD_VALUE;
            if (plans.size >= MAX_PLANS) return TOO_MANY;
            plans.insert(turn + in, kitten, by);
            return plans.size;
        }

        int passTurns(int turns) {
            if (turns < 1 || turns > MAX_TURNS) return BAD_VALUE;
            if (turn + turns > LAST_TURN) return NOT_POSSIBLE;
            int made = 0;
            for (int i = 0; i < turns; i++) made += passOneTurn();
            return made;
        }

        /** Answers how many planned leaps were made. */
        int passOneTurn() {
            turn++;
            wakeKittens();
            int made = 0;
            for (int i = 0; i < MAX_PLANS && plans.firstTurn() == turn; i++) {
                int kitten = plans.kittens[0];
                int by = plans.bys[0];
                plans.removeFirst();
                if (refusal(kitten, by) == 0) {
                    makeLeap(kitten, by);
                    made++;
                } else {
                    plansRefused++;
                }
            }
            refreshKittens();
            return made;
        }

        private void wakeKittens() {
            for (int k = 0; k < kittens; k++) {
                if (wakes[k] == turn) {
                    wakes[k] = NONE;
                    vim[k] = settings[VIM];
                }
            }
        }

        private void refreshKittens() {
            for (int k = 0; k < kittens; k++) {
                if (!naps(k) && vim[k] < settings[VIM]) vim[k]++;
            }
        }

        private boolean naps(int kitten) {
            return wakes[kitten] != NONE;
        }

        /** The reason for which a leap is refused, 0 if it is not. */
        int refusal(int kitten, int by) {
            int target = step[kitten] + by;
            if (naps(kitten)) return 1;
            if (target < 0 || target >= STEPS) return 2;
            if (by > settings[LEAP] || -by > 2 * settings[LEAP]) return 3;
            if (vim[kitten] < cost(by)) return 4;
            if (isHeldBack(kitten, target)) return 5;
            return ballLasts(kitten, by) ? 0 : 6;
        }

        private static int cost(int by) {
            return by > 0 ? 2 * by : -by;
        }

        private boolean isHeldBack(int kitten, int target) {
            for (int k = 0; k < kittens; k++) {
                if (k == kitten) continue;
                int then = Math.abs(target - step[k]);
                boolean tooFar = then > settings[BIND] && then > Math.abs(step[kitten] - step[k]);
                if (tooFar && yarn.boundEdgeSet(kitten, k) != 0) return true;
            }
            return false;
        }

        private boolean ballLasts(int kitten, int by) {
            int left = ball[kitten];
            int edges = Math.abs(by);
            for (int i = 0; i < edges; i++) {
                int edge = edgeOnWay(step[kitten], by, i);
                left += yarn.topOwner(edge) == kitten ? 1 : -1;
                if (left < 0) return false;
            }
            return true;
        }

        /** Makes a leap that is not refused. */
        void makeLeap(int kitten, int by) {
            int edges = Math.abs(by);
            for (int i = 0; i < edges; i++) comeOver(edgeOnWay(step[kitten], by, i), kitten);
            step[kitten] += by;
            vim[kitten] -= cost(by);
            leapsMade++;
        }

        private static int edgeOnWay(int from, int by, int place) {
            return by > 0 ? from + place : from - 1 - place;
        }

        private void comeOver(int edge, int kitten) {
            if (yarn.topOwner(edge) == kitten) {
                yarn.removeTop(edge);
                wound[kitten]++;
                ball[kitten]++;
            } else {
                yarn.lay(edge, kitten);
                laid[kitten]++;
                ball[kitten]--;
            }
        }

        int boundSet(int kitten) {
            int set = 0;
            for (int k = 0; k < kittens; k++) {
                if (k != kitten && yarn.boundEdgeSet(kitten, k) != 0) set |= 1 << k;
            }
            return set;
        }

        int boundPairs(int edgeSet) {
            int pairs = 0;
            for (int a = 0; a < kittens; a++) {
                for (int b = a + 1; b < kittens; b++) {
                    if ((yarn.boundEdgeSet(a, b) & edgeSet) != 0) pairs++;
                }
            }
            return pairs;
        }

        int reachSet(int kitten) {
            int set = 0;
            for (int target = 0; target < STEPS; target++) {
                int by = target - step[kitten];
                if (by != 0 && refusal(kitten, by) == 0) set |= 1 << target;
            }
            return set;
        }

        int nappingSet() {
            int set = 0;
            for (int k = 0; k < kittens; k++) {
                if (naps(k)) set |= 1 << k;
            }
            return set;
        }

        /** NONE if no kitten naps. */
        int lastWaking() {
            int last = NONE;
            for (int k = 0; k < kittens; k++) last = Math.max(last, wakes[k]);
            return last;
        }

        int sumOfAll(int[] numbers) {
            int sum = 0;
            for (int k = 0; k < kittens && k < numbers.length; k++) sum += numbers[k];
            return sum;
        }
    }

    /** The strands of all edges in the order in which they were laid, which is at each edge their order upwards. */
    private static final class Yarn {
        final int[] edges = new int[MAX_STRANDS];
        final int[] owners = new int[MAX_STRANDS];
        int lying = 0;

        void copyFrom(Yarn other) {
            lying = other.lying;
            System.arraycopy(other.edges, 0, edges, 0, lying);
            System.arraycopy(other.owners, 0, owners, 0, lying);
        }

        void lay(int edge, int owner) {
            if (lying >= MAX_STRANDS) return;
            edges[lying] = edge;
            owners[lying] = owner;
            lying++;
        }

        void removeTop(int edge) {
            int top = lying - 1;
            while (top >= 0 && edges[top] != edge) top--;
            if (top < 0) return;
            for (int i = top + 1; i < lying; i++) {
                edges[i - 1] = edges[i];
                owners[i - 1] = owners[i];
            }
            lying--;
        }

        /** Answers how many strands went. */
        int removeAll(int edge, int owner) {
            int kept = 0;
            for (int i = 0; i < lying; i++) {
                if (edges[i] == edge && owners[i] == owner) continue;
                edges[kept] = edges[i];
                owners[kept] = owners[i];
                kept++;
            }
            int gone = lying - kept;
            lying = kept;
            return gone;
        }

        /** NONE if no strand lies there. */
        int topOwner(int edge) {
            for (int i = lying - 1; i >= 0; i--) {
                if (edges[i] == edge) return owners[i];
            }
            return NONE;
        }

        /** NO_SUCH if there is no such rank. */
        int ownerAt(int edge, int rank) {
            int below = 0;
            for (int i = 0; i < lying; i++) {
                if (edges[i] != edge) continue;
                if (below == rank) return owners[i];
                below++;
            }
            return NO_SUCH;
        }

        int lyingAt(int edge) {
            int found = 0;
            for (int i = 0; i < lying; i++) {
                if (edges[i] == edge) found++;
            }
            return found;
        }

        int lyingOf(int owner) {
            int found = 0;
            for (int i = 0; i < lying; i++) {
                if (owners[i] == owner) found++;
            }
            return found;
        }

        int ownerSetAt(int edge) {
            int set = 0;
            for (int i = 0; i < lying; i++) {
                if (edges[i] == edge) set |= 1 << owners[i];
            }
            return set;
        }

        /**
         * One has a strand between two of the other exactly where the strands of both, read upwards, change from
         * one kitten to the other twice or more often; so one way over all edges finds them all.
         */
        int boundEdgeSet(int one, int other) {
            int lastOfOne = 0;
            int lastOfOther = 0;
            int changed = 0;
            int bound = 0;
            for (int i = 0; i < lying; i++) {
                int edge = 1 << edges[i];
                if (owners[i] == one) {
                    bound |= edge & lastOfOther & changed;
                    changed |= edge & lastOfOther;
                    lastOfOther &= ~edge;
                    lastOfOne |= edge;
                } else if (owners[i] == other) {
                    bound |= edge & lastOfOne & changed;
                    changed |= edge & lastOfOne;
                    lastOfOne &= ~edge;
                    lastOfOther |= edge;
                }
            }
            return bound;
        }

        /** Two kittens are free of one another where all strands of one lie below all of the other. */
        int fewestGone(int edge, int one, int other) {
            int both = 0;
            for (int i = 0; i < lying; i++) {
                if (edges[i] == edge && (owners[i] == one || owners[i] == other)) both++;
            }
            return both - Math.max(mostKept(edge, one, other), mostKept(edge, other, one));
        }

        private int mostKept(int edge, int lower, int upper) {
            int lowerAlone = 0;
            int withUpper = 0;
            for (int i = 0; i < lying; i++) {
                if (edges[i] != edge) continue;
                if (owners[i] == lower) lowerAlone++;
                else if (owners[i] == upper) withUpper = Math.max(withUpper, lowerAlone) + 1;
            }
            return Math.max(withUpper, lowerAlone);
        }
    }

    /** The leaps that are planned, in the order in which they will be made. */
    private static final class Plans {
        final int[] turns = new int[MAX_PLANS];
        final int[] kittens = new int[MAX_PLANS];
        final int[] bys = new int[MAX_PLANS];
        int size = 0;

        void copyFrom(Plans other) {
            size = other.size;
            System.arraycopy(other.turns, 0, turns, 0, size);
            System.arraycopy(other.kittens, 0, kittens, 0, size);
            System.arraycopy(other.bys, 0, bys, 0, size);
        }

        void insert(int turn, int kitten, int by) {
            if (size >= MAX_PLANS) return;
            int place = size;
            while (place > 0 && isLater(place - 1, turn, kitten)) {
                move(place - 1, place);
                place--;
            }
            turns[place] = turn;
            kittens[place] = kitten;
            bys[place] = by;
            size++;
        }

        private boolean isLater(int place, int turn, int kitten) {
            if (turns[place] != turn) return turns[place] > turn;
            return kittens[place] > kitten;
        }

        void removeFirst() {
            if (size == 0) return;
            for (int i = 1; i < size; i++) move(i, i - 1);
            size--;
        }

        private void move(int from, int to) {
            turns[to] = turns[from];
            kittens[to] = kittens[from];
            bys[to] = bys[from];
        }

        /** NONE if no leap is planned. */
        int firstTurn() {
            return size == 0 ? NONE : turns[0];
        }

        /** NONE if no leap is planned. */
        int lastTurn() {
            return size == 0 ? NONE : turns[size - 1];
        }
    }

    /** The states before the latest changes, in a ring with one place more for the draft of the next one. */
    private static final class History {
        private static final int PLACES = MAX_UNDO + 1;
        final Stairs[] states = new Stairs[PLACES];
        int draftPlace = 0;
        int size = 0;

        /** Notes the state before a change of which it is not known yet whether it will be made. */
        void draft(Stairs state) {
            roomAt(states, draftPlace).copyFrom(state);
        }

        void keepDraft() {
            draftPlace = (draftPlace + 1) % PLACES;
            if (size < MAX_UNDO) size++;
        }

        void takeBack(Stairs state) {
            if (size == 0) return;
            draftPlace = (draftPlace + PLACES - 1) % PLACES;
            size--;
            state.copyFrom(roomAt(states, draftPlace));
        }
    }

    /** The text of orders that is being written. */
    private static final class Pad {
        final int[] signs = new int[MAX_SIGNS];
        int length = 0;

        int append(long characters) {
            int added = signsIn(characters);
            if (added == 0) return BAD_VALUE;
            if (length + added > MAX_SIGNS) return TOO_MANY;
            for (int i = added - 1; i >= 0; i--) {
                signs[length] = (int) (characters >>> (8 * i) & 255);
                length++;
            }
            return length;
        }

        /** How many characters a number holds, 0 if it holds none or anything else beside them. */
        private static int signsIn(long characters) {
            long rest = characters;
            int found = 0;
            while (found < SIGNS_PER_PUT && rest != 0) {
                long sign = rest & 255;
                if (sign < LOWEST_SIGN || sign > HIGHEST_SIGN) return 0;
                rest >>>= 8;
                found++;
            }
            return found;
        }

        int empty() {
            int before = length;
            length = 0;
            return before;
        }

        /** The character at a place, 0 behind the end. */
        int signAt(int place) {
            return place >= 0 && place < length ? signs[place] : 0;
        }
    }

    /** The orders that were read from the pad last. */
    private static final class Orders {
        final int[] letters = new int[MAX_ORDERS];
        final int[] parts = new int[MAX_ORDERS * PARTS];
        int size = 0;
        // The place up to which the text is read: no character before it is a fault.
        private int at = 0;

        int letter(int order) {
            return order >= 0 && order < MAX_ORDERS ? letters[order] : 0;
        }

        int part(int order, int place) {
            return hasPart(order, place) ? parts[order * PARTS + place] : 0;
        }

        private static boolean hasPart(int order, int place) {
            return order >= 0 && order < MAX_ORDERS && place >= 0 && place < PARTS;
        }

        /** Reads the pad; answers its fault, NONE if there is none. */
        int read(Pad pad) {
            size = 0;
            at = 0;
            while (size < MAX_ORDERS) {
                if (!readOrder(pad)) return at;
                size++;
                if (at >= pad.length) return NONE;
                if (!readSign(pad, ';')) return at;
            }
            return at;
        }

        /** Like the other readers, it stops ahead of the first character that cannot stand there. */
        private boolean readOrder(Pad pad) {
            int letter = pad.signAt(at);
            if (!isLetter(letter) || size >= MAX_ORDERS) return false;
            at++;
            letters[size] = letter;
            switch (letter) {
                case 'g': return readDigit(pad, 0) && readBy(pad, 1);
                case 'n': return readDigit(pad, 0);
                case 'x': return readNumber(pad, 0) && readSign(pad, '.') && readDigit(pad, 1);
                case 'p': return readNumber(pad, 0) && readSign(pad, ':') && readDigit(pad, 1) && readBy(pad, 2);
                default: return readNumber(pad, 0);
            }
        }

        private static boolean isLetter(int sign) {
            return sign == 'k' || sign == 'g' || sign == 'n' || sign == 'x' || sign == 'p' || sign == 't';
        }

        private boolean readSign(Pad pad, int sign) {
            if (pad.signAt(at) != sign) return false;
            at++;
            return true;
        }

        private boolean readDigit(Pad pad, int place) {
            int value = digit(pad);
            return value >= 0 && keep(place, value);
        }

        private boolean readNumber(Pad pad, int place) {
            int value = number(pad);
            return value >= 0 && keep(place, value);
        }

        private boolean readBy(Pad pad, int place) {
            boolean down = pad.signAt(at) == '-';
            if (!readSign(pad, '-') && !readSign(pad, '+')) return false;
            int steps = number(pad);
            return steps >= 0 && keep(place, down ? -steps : steps);
        }

        private boolean keep(int place, int value) {
            if (!hasPart(size, place)) return false;
            parts[size * PARTS + place] = value;
            return true;
        }

        /** NONE if no number stands there. */
        private int number(Pad pad) {
            int first = digit(pad);
            // A number that begins with 0 is 0 alone.
            if (first <= 0) return first;
            int second = digit(pad);
            return second < 0 ? first : 10 * first + second;
        }

        /** NONE if no digit stands there. */
        private int digit(Pad pad) {
            int sign = pad.signAt(at);
            if (sign < '0' || sign > '9') return NONE;
            at++;
            return sign - '0';
        }
    }
}
