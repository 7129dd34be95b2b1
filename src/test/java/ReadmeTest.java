import java.lang.reflect.Method;
import java.lang.reflect.Modifier;
import java.nio.file.Files;
import java.nio.file.Path;
import java.util.ArrayList;
import java.util.Arrays;
import java.util.List;
import java.util.Set;
import java.util.TreeSet;
import java.util.regex.Matcher;
import java.util.regex.Pattern;
import java.util.stream.Collectors;
import java.util.stream.Stream;

/** What README.md says is so: its commands print what it shows, its tables tell every call and every test. */
public final class ReadmeTest {
    public static void main(String[] args) throws Exception {
        String readme = Files.readString(Path.of("README.md"));
        String use = section(readme, "Use");
        String tests = section(readme, "Tests");
        example(use);
        runsOfTests(tests);
        Trial.due("the calls that it tells", rows(use, "`(\\w+\\(.*?\\))`").toString(), calls().toString());
        Trial.due("the tests that it tells", rows(tests, "`(\\w+)`").toString(), testsThere().toString());
        numbers(use);
        Trial.end();
    }

    private static String section(String readme, String title) {
        int from = readme.indexOf("\n## " + title + "\n");
        int to = readme.indexOf("\n## ", from + 1);
        return readme.substring(from, to < 0 ? readme.length() : to);
    }

    private static List<String> blocks(String section, String kind) {
        List<String> blocks = new ArrayList<>();
        Matcher found = Pattern.compile("^```" + kind + "\n(.*?)^```$", Pattern.MULTILINE | Pattern.DOTALL).matcher(section);
        while (found.find()) {
            blocks.add(found.group(1));
        }
        return blocks;
    }

    private static void example(String use) throws Exception {
        Copy copy = new Copy().take("src/main").write("Example.java", blocks(use, "java").get(0));
        Trial.due("the example prints", runAll(copy, blocks(use, "sh").get(0)), blocks(use, "text").get(0) + "exit 0");
        copy.delete();
    }

    /** All tests' own command is RunTest's matter: this one would be run by it again. */
    private static void runsOfTests(String tests) throws Exception {
        Trial.due("all tests are run by", blocks(tests, "sh").get(0), ".ci/run\n");
        Copy copy = new Copy().take("src");
        Trial.due("one test prints", runAll(copy, blocks(tests, "sh").get(1)), blocks(tests, "text").get(0) + "exit 0");
        copy.delete();
    }

    /** What the last of some commands printed; those before it print nothing when they are well. */
    private static String runAll(Copy copy, String commands) throws Exception {
        String printed = "exit 0";
        for (String command : commands.split("\n")) {
            Trial.due("the command before \"" + command + "\"", printed, "exit 0");
            printed = copy.run(command);
        }
        return printed;
    }

    /** What stands first in a table's rows, sorted, the rows of its head left out. */
    private static Set<String> rows(String section, String first) {
        Set<String> rows = new TreeSet<>();
        Matcher found = Pattern.compile("^\\| " + first + " \\|", Pattern.MULTILINE).matcher(section);
        while (found.find()) {
            rows.add(found.group(1).replaceAll(" \\w+(?=[,)])", "").replace(", ", ","));
        }
        return rows;
    }

    private static Set<String> calls() {
        Set<String> calls = new TreeSet<>();
        for (Method method : FieldPacker.class.getDeclaredMethods()) {
            if (Modifier.isPublic(method.getModifiers())) {
                calls.add(Arrays.stream(method.getParameterTypes()).map(Class::getName)
                    .collect(Collectors.joining(",", method.getName() + "(", ")")));
            }
        }
        return calls;
    }

    private static Set<String> testsThere() throws Exception {
        try (Stream<Path> files = Files.list(Path.of("src/test/java"))) {
            return files.map(file -> file.getFileName().toString()).filter(name -> name.endsWith("Test.java"))
                .map(name -> name.replace(".java", "")).collect(Collectors.toCollection(TreeSet::new));
        }
    }

    private static void numbers(String use) {
        for (String said : new String[] {"`NONE` (" + FieldPacker.NONE + ")", "`FULL` (" + FieldPacker.FULL + ")"}) {
            Trial.due("it says " + said, use.contains(said) ? 1 : 0, 1);
        }
    }
}
