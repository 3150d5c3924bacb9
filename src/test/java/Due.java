/** Compares answers with those that are due, and ends a test. */
final class Due {
    private int calls = 0;
    private int wrong = 0;

    void is(String call, long answered, long due) {
        calls++;
        if (answered == due) return;
        wrong++;
        System.out.println(call + " answered " + answered + ", due is " + due);
    }

    void holds(String what, boolean so) {
        calls++;
        if (so) return;
        wrong++;
        System.out.println("does not hold: " + what);
    }

    /** Puts a text on the pad, up to eight characters a call; answers what the last call answered. */
    static int write(KittenStairs x, String text) {
        int answer = 0;
        for (int from = 0; from < text.length(); from += 8) {
            answer = x.put(packed(text.substring(from, Math.min(from + 8, text.length()))));
        }
        return answer;
    }

    static long packed(String text) {
        long number = 0;
        for (char sign : text.toCharArray()) number = number << 8 | sign;
        return number;
    }

    void end() {
        System.out.println(wrong == 0 ? calls + " answers are as due" : wrong + " of " + calls + " are not as due");
        if (wrong != 0) System.exit(1);
    }
}
