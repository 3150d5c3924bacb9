/** Staircases on which tests begin. */
final class Scenes {
    private Scenes() {
    }

    /** One that is new but for its kittens. */
    static KittenStairs plain(int... steps) {
        KittenStairs x = new KittenStairs();
        for (int step : steps) x.kitten(step);
        return x;
    }

    /** One on which neither vim nor LEAP nor BIND is a hindrance. */
    static KittenStairs roomy(int... steps) {
        KittenStairs x = new KittenStairs();
        x.set(KittenStairs.VIM, 60);
        x.set(KittenStairs.LEAP, 8);
        x.set(KittenStairs.BIND, 15);
        for (int step : steps) x.kitten(step);
        return x;
    }

    /** Three kittens that came on one step have laid strands at the edge above it, the lowest one first. */
    static KittenStairs laid(int step, String kittens) {
        KittenStairs x = roomy(step, step, step);
        boolean[] above = new boolean[3];
        for (char sign : kittens.toCharArray()) {
            int k = sign - '0';
            x.leap(k, above[k] ? -1 : 1);
            above[k] = !above[k];
        }
        return x;
    }

    /**
     * Two kittens that came on step 0 have laid all but so much of their balls at edge 0, by turns, the second one last;
     * with an even number left they are on step 0 again. Their vim is spent if nothing is left.
     */
    static KittenStairs shortBalls(int left) {
        KittenStairs x = roomy(0, 0);
        for (int i = left; i < 40; i++) {
            int by = (i - left) % 2 == 0 ? 1 : -1;
            x.leap(0, by);
            x.leap(1, by);
        }
        return x;
    }

    static KittenStairs atTurn(int turn, int... steps) {
        KittenStairs x = plain(steps);
        int rest = turn;
        for (; rest >= 99; rest -= 99) x.pass(99);
        if (rest > 0) x.pass(rest);
        return x;
    }

    static KittenStairs written(String text) {
        KittenStairs x = new KittenStairs();
        write(x, text);
        return x;
    }

    /** Puts a text on the pad, up to eight characters a call; answers what the last call answered. */
    static int write(KittenStairs x, String text) {
        int answer = 0;
        for (int from = 0; from < text.length(); from += 8) {
            answer = x.put(packed(text.substring(from, Math.min(from + 8, text.length()))));
        }
        return answer;
    }

    static long packed(String text) {
        long number = 0;
        for (char sign : text.toCharArray()) number = number << 8 | sign;
        return number;
    }
}
