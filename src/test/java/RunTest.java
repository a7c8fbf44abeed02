import java.io.IOException;
import java.util.List;

/** .ci/run: it runs each test, and ends with exit code 1 if one fails; tried on small projects beside this one. */
public final class RunTest {
    private static final String OWN = "main/src/test/java/", SHARED = "shared/tests/";

    private static int wrong = 0;

    public static void main(String[] args) throws IOException, InterruptedException {
        try (Shell shell = new Shell()) {
            shell.copy(".ci/run", "main/.ci/run");
            shell.write("main/src/main/java/SkewEdges.java", List.of("public final class SkewEdges { }"));
            shell.write(OWN + "OwnTest.java", test("OwnTest", 0));
            shell.write(OWN + "Helper.java", test("Helper", 1));
            shell.write(SHARED + "Runs.java", test("Runs", 0));
            due(shell, "all pass", 0, "2 tests were run");

            shell.write(OWN + "OtherTest.java", test("OtherTest", 1));
            due(shell, "a test fails", 1, "FAILED: OtherTest");
            shell.write(OWN + "OtherTest.java", List.of("public final class OtherTest {"));
            due(shell, "a test doesn't compile", 1, "FAILED: the project's tests");
            shell.delete(OWN + "OtherTest.java");

            shell.write(SHARED + "More.java", test("More", 1));
            due(shell, "a shared test fails", 1, "FAILED: shared More");
            shell.write(SHARED + "More.java", List.of("final class More { Helper leansOnAnother; }"));
            due(shell, "a shared test doesn't compile", 1, "FAILED: shared More");
            shell.delete(SHARED + "More.java");
            shell.delete(SHARED + "Runs.java");
            due(shell, "there is no shared test", 1, "FAILED: no tests");
        }
        if (wrong != 0) {
            System.exit(1);
        }
    }

    private static List<String> test(String name, int code) {
        return List.of("public final class " + name + " {", "    public static void main(String[] args) {",
            "        System.exit(" + code + ");", "    }", "}");
    }

    /** From another directory, too: it finds the project by its own place. */
    private static void due(Shell shell, String what, int code, String printed) throws IOException, InterruptedException {
        int got = shell.run("sh main/.ci/run");
        if (got != code || !shell.printed().contains(printed)) {
            wrong++;
            System.out.println(".ci/run, " + what + ": ended with " + got + ", due is " + code + ", and printed " + shell.printed());
        }
    }
}
