/** Counts and prints the answers that are not the ones that are due, each with the promise that asks for it. */
final class Due {
    private int wrong = 0;

    void is(int promise, String call, long got, long want) {
        if (got != want) {
            wrong++;
            System.out.println("promise " + promise + ": " + call + " answered " + got + ", due is " + want);
        }
    }

    /** Ends the test, with exit code 1 if an answer was wrong. */
    void end() {
        if (wrong != 0) {
            System.out.println(wrong + " answers are not as due");
            System.exit(1);
        }
    }

    /** Up to 8 characters as put() takes them. */
    static long word(String characters) {
        long word = 0;
        for (int i = 0; i < characters.length(); i++) {
            word = word << 8 | characters.charAt(i);
        }
        return word;
    }

    /** Puts a text of any length on the pad, and answers what the last put() did. */
    static int put(SkewEdges x, String text) {
        int answer = 0;
        for (int i = 0; i < text.length(); i += 8) {
            answer = x.put(word(text.substring(i, Math.min(text.length(), i + 8))));
        }
        return answer;
    }
}
