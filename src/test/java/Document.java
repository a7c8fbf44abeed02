import java.io.IOException;
import java.nio.file.Files;
import java.nio.file.Path;
import java.util.ArrayList;
import java.util.List;

/** The document's sentences, each with the place where it stands: "Conventions", "Edges", "Promise 3" and so on. */
final class Document {
    private static final Path FILE = Path.of("../shared/DOC.md");

    private final List<String> sentences = new ArrayList<>();

    Document() throws IOException {
        String place = "";
        boolean shown = false;
        for (String line : Files.readAllLines(FILE)) {
            if (line.startsWith("```")) {
                shown = !shown;
            } else if (line.startsWith("#") && !shown) {
                place = line.replaceFirst("^#+ ", "").replaceFirst(":.*", "");
            } else if (line.startsWith("CONVENTIONS.")) {
                place = "Conventions";
                add(place, line.substring(line.indexOf('.') + 1));
            } else if (line.equals("Keys, transactions")) {
                place = line;
            } else {
                add(place, line);
            }
        }
    }

    private void add(String place, String line) {
        for (String part : line.trim().split("(?<=[.;])\\s+")) {
            if (!part.isEmpty()) {
                sentences.add(place + " | " + part);
            }
        }
    }

    /** Prints which sentences no test holds, and which held ones the document doesn't have; answers how many. */
    int compare(List<String> held) {
        int wrong = 0;
        for (String sentence : sentences) {
            if (asksForSomething(sentence) && held.stream().noneMatch(one -> overlap(sentence, one))) {
                wrong++;
                System.out.println("no test holds: " + sentence);
            }
        }
        for (String one : held) {
            if (sentences.stream().noneMatch(sentence -> overlap(sentence, one))) {
                wrong++;
                System.out.println("not in the document: " + one);
            }
        }
        return wrong;
    }

    /** A test may hold a part of a sentence. */
    private static boolean overlap(String sentence, String one) {
        String[] has = sentence.split(" \\| ", 2);
        String[] part = one.split(" \\| ", 2);
        return has[0].equals(part[0]) && has[1].contains(part[1]);
    }

    private static boolean asksForSomething(String sentence) {
        String place = sentence.substring(0, sentence.indexOf(" | "));
        return !List.of("What it is", "The public face", "Not promised").contains(place)
            && !sentence.contains("Ahead of the calls");
    }
}
