import java.io.IOException;
import java.lang.reflect.Method;
import java.lang.reflect.Modifier;
import java.nio.file.Files;
import java.nio.file.Path;
import java.nio.file.attribute.PosixFilePermission;
import java.util.ArrayList;
import java.util.List;
import java.util.Set;
import java.util.TreeSet;
import java.util.regex.Matcher;
import java.util.regex.Pattern;
import java.util.stream.Stream;

/** README.md: its examples answer what it says, its commands run, and its tables name every call and every test. */
public final class ReadmeTest {
    private static final String CLASS = "src/main/java/SkewEdges.java", DUE_CLASS = "src/test/java/Due.java";
    private static final Pattern TOLD = Pattern.compile("(?:int (\\w+) = )?(x\\.\\w+\\(.*\\)); +// (-?\\d+|[A-Z_]+)\\b.*");
    private static final Pattern ANSWERED = Pattern.compile("(.*\\S) +# (.*)");
    private static final int FEWEST_TOLD = 60;

    private static int wrong = 0;

    public static void main(String[] args) throws IOException, InterruptedException {
        Readme readme = new Readme();
        examples(readme);
        commands(readme);
        tables(readme);
        files(readme);
        if (wrong != 0) {
            System.exit(1);
        }
    }

    /** Each example goes into one program, in which each answer that the page tells is compared. */
    private static void examples(Readme readme) throws IOException, InterruptedException {
        List<String> program = new ArrayList<>();
        int examples = 0;
        int told = 0;
        program.add("public final class Examples {");
        program.add("    static final Due DUE = new Due();");
        program.add("    public static void main(String[] args) {");
        for (List<String> block : readme.blocks("java")) {
            if (!isProgram(block)) {
                examples++;
                program.add("{ DUE.holds(\"README.md\", \"example " + examples + "\");");
                for (String line : block) {
                    told += TOLD.matcher(line).matches() ? 1 : 0;
                    program.add(compared(line));
                }
                program.add("}");
            }
        }
        program.add("        DUE.end();");
        program.add("    }");
        program.add("}");
        check("examples tell " + told + " answers", told >= FEWEST_TOLD);
        try (Shell shell = new Shell()) {
            shell.copy(CLASS, CLASS);
            shell.copy(DUE_CLASS, DUE_CLASS);
            shell.write("Examples.java", program);
            int code = shell.run("javac -d out " + CLASS + " " + DUE_CLASS + " Examples.java && java -cp out Examples");
            check("an example: " + shell.printed(), code == 0);
        }
    }

    private static String compared(String line) {
        Matcher told = TOLD.matcher(line);
        if (!told.matches()) {
            check("the page tells no answer of " + line, !line.matches("(int \\w+ = )?x\\.(?!put\\().*"));
            return line;
        }
        String name = told.group(1);
        String answer = told.group(3).matches("-?\\d+") ? told.group(3) : "SkewEdges." + told.group(3);
        String call = name == null ? told.group(2) : name;
        String kept = name == null ? "" : "int " + name + " = " + told.group(2) + "; ";
        return kept + "DUE.is(\"" + told.group(2) + "\", " + call + ", " + answer + ");";
    }

    private static boolean isProgram(List<String> block) {
        return block.get(0).startsWith("public ");
    }

    /** The whole program of the page is compiled and run as the page says; .ci/run is RunTest's. */
    private static void commands(Readme readme) throws IOException, InterruptedException {
        int answered = 0;
        try (Shell shell = new Shell()) {
            shell.copy(CLASS, CLASS);
            for (List<String> block : readme.blocks("java")) {
                if (isProgram(block)) {
                    shell.write(block.get(0).replaceAll(".* class (\\w+).*", "$1") + ".java", block);
                }
            }
            for (List<String> block : readme.blocks("sh")) {
                for (String line : block) {
                    if (line.equals(".ci/run")) {
                        Set<PosixFilePermission> modes = Files.getPosixFilePermissions(Path.of(line));
                        check(line + " can be run", modes.contains(PosixFilePermission.OWNER_EXECUTE));
                        continue;
                    }
                    Matcher told = ANSWERED.matcher(line);
                    boolean tells = told.matches();
                    int code = shell.run(tells ? told.group(1) : line);
                    check(line + ": " + shell.printed(), code == 0 && shell.printed().trim().equals(tells ? told.group(2) : ""));
                    answered += tells ? 1 : 0;
                }
            }
        }
        check("no command tells what it prints", answered > 0);
    }

    private static void tables(Readme readme) throws IOException {
        TreeSet<String> due = new TreeSet<>();
        String examples = readme.blocks("java").toString();
        for (Method method : SkewEdges.class.getDeclaredMethods()) {
            if (Modifier.isPublic(method.getModifiers())) {
                due.add(method.getName());
                check("no example calls " + method.getName(), examples.contains("x." + method.getName() + "("));
            }
        }
        try (Stream<Path> tests = Files.list(Path.of("src/test/java"))) {
            tests.map(path -> path.getFileName().toString()).filter(name -> name.endsWith("Test.java"))
                .forEach(name -> due.add(name.replace(".java", "")));
        }
        TreeSet<String> named = new TreeSet<>();
        for (String name : readme.namedInTables()) {
            named.add(name.replaceAll("\\(.*", ""));
        }
        check("tables name " + named + ", due is " + due, named.equals(due));
    }

    private static void files(Readme readme) {
        for (String name : readme.namedInText()) {
            if (name.matches("[\\w./]*/[\\w./]*")) {
                check("there is no " + name, Files.exists(Path.of(name)));
            }
        }
    }

    private static void check(String what, boolean holds) {
        if (!holds) {
            wrong++;
            System.out.println("README.md, " + what);
        }
    }
}
