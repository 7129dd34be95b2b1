import java.nio.file.Files;
import java.nio.file.Path;

/** .ci/run runs every test of the project and under ../shared/tests, and fails if one fails, in small projects. */
public final class RunTest {
    private static final String OWN = "src/test/java/OwnTest.java";
    private static final String SHARED = "../shared/tests/Runs.java";
    private static final String DEEPER = "../shared/tests/more/Deeper.java";

    public static void main(String[] args) throws Exception {
        Trial.due("it is executable", Files.isExecutable(Path.of(".ci/run")) ? 1 : 0, 1);
        Copy copy = new Copy().take(".ci").take("src/main");
        copy.write(OWN, test("OwnTest", 0)).write(SHARED, test("Runs", 0)).write(DEEPER, test("Deeper", 0));
        copy.write("src/test/java/Helper.java", "final class Helper { }");
        wellFromAnywhere(copy);
        oneThatFails(copy, OWN, "OwnTest");
        oneThatFails(copy, SHARED, "Runs");
        oneThatFails(copy, DEEPER, "Deeper");
        oneThatIsNoJava(copy);
        noneThere(copy);
        copy.delete();
        Trial.end();
    }

    /** A test that takes the program, tells that it runs, and ends with an exit code. */
    private static String test(String name, int code) {
        return "public final class " + name + " { public static void main(String[] args) {\n"
            + "System.out.println(\"" + name + " runs\"); System.exit(new FieldPacker().drop() + " + code + "); } }\n";
    }

    private static void due(String what, String printed, int runs, int exit) {
        int told = 0;
        for (String line : printed.split("\n")) {
            told += line.endsWith(" runs") ? 1 : 0;
        }
        String code = printed.substring(printed.lastIndexOf("exit"));
        Trial.due(what + ": tests that ran, and the exit code; it printed\n" + printed + "\nand", told + " " + code, runs + " exit " + exit);
    }

    private static void wellFromAnywhere(Copy copy) throws Exception {
        due("all well", copy.run(".ci/run"), 3, 0);
        due("from another directory", copy.run(copy.project + "/.ci/run", copy.project.resolve("src")), 3, 0);
    }

    private static void oneThatFails(Copy copy, String path, String name) throws Exception {
        copy.write(path, test(name, 1));
        due(path + " fails", copy.run(".ci/run"), 3, 1);
        copy.write(path, test(name, 0));
    }

    private static void oneThatIsNoJava(Copy copy) throws Exception {
        copy.write(SHARED, "public final class Runs {");
        due("one does not compile", copy.run(".ci/run"), 2, 1);
        copy.write(SHARED, test("Runs", 0));
    }

    private static void noneThere(Copy copy) throws Exception {
        copy.remove(OWN);
        due("no test of the project", copy.run(".ci/run"), 0, 1);
        copy.write(OWN, test("OwnTest", 0));
        copy.remove(SHARED);
        copy.remove(DEEPER);
        due("no test that is shared", copy.run(".ci/run"), 0, 1);
    }
}
