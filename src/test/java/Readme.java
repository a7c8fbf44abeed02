import java.io.IOException;
import java.nio.file.Files;
import java.nio.file.Path;
import java.util.ArrayList;
import java.util.List;
import java.util.TreeSet;
import java.util.regex.Matcher;
import java.util.regex.Pattern;

/** README.md: its blocks of code and what its text names. */
final class Readme {
    private static final Pattern NAMED = Pattern.compile("`([^`]+)`");

    private final List<String> lines;

    Readme() throws IOException {
        lines = Files.readAllLines(Path.of("README.md"));
    }

    /** The lines of each block that begins with ``` and this word. */
    List<List<String>> blocks(String language) {
        List<List<String>> found = new ArrayList<>();
        List<String> block = null;
        for (String line : lines) {
            if (line.equals("```" + language)) {
                block = new ArrayList<>();
                found.add(block);
            } else if (line.startsWith("```")) {
                block = null;
            } else if (block != null) {
                block.add(line);
            }
        }
        return found;
    }

    /** What stands between two signs ` in the first column of the tables. */
    TreeSet<String> namedInTables() {
        TreeSet<String> found = new TreeSet<>();
        for (String line : lines) {
            if (line.startsWith("|")) {
                found.addAll(named(line.split("\\|")[1]));
            }
        }
        return found;
    }

    /** What stands between two signs ` in the text, outside the blocks of code. */
    TreeSet<String> namedInText() {
        TreeSet<String> found = new TreeSet<>();
        boolean inBlock = false;
        for (String line : lines) {
            if (line.startsWith("```")) {
                inBlock = !inBlock;
            } else if (!inBlock) {
                found.addAll(named(line));
            }
        }
        return found;
    }

    private static List<String> named(String line) {
        List<String> found = new ArrayList<>();
        Matcher matcher = NAMED.matcher(line);
        while (matcher.find()) {
            found.add(matcher.group(1));
        }
        return found;
    }
}
