import java.io.IOException;
import java.nio.file.Files;
import java.nio.file.Path;
import java.util.List;
import java.util.regex.Matcher;
import java.util.regex.Pattern;

/** LANGUAGE.md, as far as the text of the class shows it: words, signs and the length of methods. */
public final class RulesTest {
    private static final Pattern FORBIDDEN = Pattern.compile("\\b(throw|throws|try|catch|finally|synchronized|assert|import|"
        + "package|instanceof|native|volatile|transient|System\\.(?!arraycopy)\\w+|Object|Exception|Error|float|double|"
        + "hashCode|toString)\\b|->|::|[^\\x00-\\x7f]");
    private static final int LONGEST_METHOD = 60, MOST_PARAMETERS = 7, MOST_CLASSES = 12;

    private static int wrong = 0;

    public static void main(String[] args) throws IOException {
        List<String> lines = Files.readAllLines(Path.of("src/main/java/SkewEdges.java"));
        words(lines);
        methods(lines);
        makers(lines);
        if (wrong != 0) {
            System.exit(1);
        }
    }

    private static void words(List<String> lines) {
        int classes = 0;
        for (int i = 0; i < lines.size(); i++) {
            String line = lines.get(i);
            boolean comment = line.contains("/**");
            classes += line.matches(".*\\b(class|record|enum|interface)\\s+[A-Z]\\w*.*\\{") ? 1 : 0;
            Matcher matcher = FORBIDDEN.matcher(line.replaceAll("//.*", ""));
            if (!comment && matcher.find()) {
                say(i, "has " + matcher.group());
            }
        }
        if (classes > MOST_CLASSES) {
            say(0, "has " + classes + " classes");
        }
    }

    private static void methods(List<String> lines) {
        Pattern head = Pattern.compile("^( +)[\\w\\[\\] ]+\\(([^()]*)\\) \\{$");
        for (int i = 0; i < lines.size(); i++) {
            Matcher matcher = head.matcher(lines.get(i));
            if (matcher.matches() && !lines.get(i).trim().matches("(if|for|while|switch|else)\\b.*")) {
                int end = lines.subList(i, lines.size()).indexOf(matcher.group(1) + "}");
                if (end < 0 || end > LONGEST_METHOD) {
                    say(i, "begins a method of " + end + " lines");
                }
                if (matcher.group(2).split(",").length > MOST_PARAMETERS) {
                    say(i, "has too many parameters");
                }
            }
        }
    }

    /** All calls of a run share one room, so what an object needs is made by the constructors, and a call makes nothing. */
    private static void makers(List<String> lines) {
        Pattern constructor = Pattern.compile("^( +)(public )?[A-Z]\\w*\\(\\) \\{$");
        String end = null;
        for (int i = 0; i < lines.size(); i++) {
            String line = lines.get(i);
            Matcher matcher = constructor.matcher(line);
            if (matcher.matches()) {
                end = matcher.group(1) + "}";
            } else if (line.equals(end)) {
                end = null;
            } else if (end == null && line.matches(".*\\b(new\\b|clone\\(|copyOf|substring|toCharArray).*")) {
                say(i, "makes an object outside a constructor");
            }
        }
    }

    private static void say(int line, String what) {
        wrong++;
        System.out.println("SkewEdges.java:" + (line + 1) + " " + what);
    }
}
