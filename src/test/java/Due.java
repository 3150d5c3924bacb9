import java.util.HashSet;
import java.util.Set;

/** Compares answers with those that are due, and ends a test. */
final class Due {
    private final Set<String> sentences = new HashSet<>();
    private int calls = 0;
    private int wrong = 0;
    private String sentence = "";

    /** Names the sentence of the document that the checks from here on are about. */
    void sentence(String text) {
        sentences.add(text);
        sentence = text;
    }

    void is(String call, long answered, long due) {
        calls++;
        if (answered == due) return;
        wrong++;
        System.out.println("\"" + sentence + "\": " + call + " answered " + answered + ", due is " + due);
    }

    void holds(String what, boolean so) {
        calls++;
        if (so) return;
        wrong++;
        System.out.println("\"" + sentence + "\": does not hold: " + what);
    }

    void end() {
        String about = sentences.isEmpty() ? "" : " about " + sentences.size() + " sentences";
        if (wrong == 0) System.out.println(calls + " answers" + about + " are as due");
        else System.out.println(wrong + " of " + calls + " answers" + about + " are not as due");
        if (wrong != 0) System.exit(1);
    }
}
