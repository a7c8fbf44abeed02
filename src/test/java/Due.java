import java.util.ArrayList;
import java.util.List;

/** Counts and prints the answers that are not the ones that are due, each with what asks for it. */
final class Due {
    private int wrong = 0;
    private String place = "";
    private String sentence = "";
    private final List<String> held = new ArrayList<>();

    void is(int promise, String call, long got, long want) {
        if (got != want) {
            wrong++;
            System.out.println("promise " + promise + ": " + call + " answered " + got + ", due is " + want);
        }
    }

    /** What follows tests this sentence, which stands at this place of the document. */
    void holds(String place, String sentence) {
        this.place = place;
        this.sentence = sentence;
        held.add(place + " | " + sentence);
    }

    /** An answer that the sentence told last asks for. */
    void is(String call, long got, long want) {
        same(call, Long.toString(got), Long.toString(want));
    }

    void same(String what, String got, String want) {
        if (!got.equals(want)) {
            wrong++;
            System.out.println(place + ", \"" + sentence + "\": " + what + " answered " + got + ", due is " + want);
        }
    }

    /** All sentences told so far, each as "place | sentence". */
    List<String> heldSentences() {
        return held;
    }

    /** Ends the test, with exit code 1 if an answer was wrong. */
    void end() {
        if (wrong != 0) {
            System.out.println(wrong + " answers are not as due");
            System.exit(1);
        }
    }

    /** Up to 8 characters as put() takes them. */
    static long word(String characters) {
        long word = 0;
        for (int i = 0; i < characters.length(); i++) {
            word = word << 8 | characters.charAt(i);
        }
        return word;
    }

    /** Puts a text of any length on the pad, and answers what the last put() did. */
    static int put(SkewEdges x, String text) {
        int answer = 0;
        for (int i = 0; i < text.length(); i += 8) {
            answer = x.put(word(text.substring(i, Math.min(text.length(), i + 8))));
        }
        return answer;
    }
}
