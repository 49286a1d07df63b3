import java.io.File;
import java.io.IOException;
import java.lang.reflect.Method;
import java.nio.file.Files;
import java.nio.file.Path;
import java.util.ArrayList;
import java.util.List;
import java.util.TreeSet;
import java.util.regex.Matcher;
import java.util.regex.Pattern;

/** README.md is true: its example runs as it says, and the tests that it names are those there are. */
public final class ReadmeTest {
    private static final Path README = Path.of("README.md");
    private static final Path TESTS = Path.of("src/test/java");
    private static final String TABLE = "### Which test stands at which boundary";
    private static final Check CHECK = new Check("ReadmeTest");

    public static void main(String[] args) throws IOException {
        theExample();
        theExampleIsTheOneInTheReadme();
        everyTestIsNamed();
        everyNameInTheTableIsATest();
        CHECK.end();
    }

    private static void theExample() {
        // The example begins.
        ColumnDesk desk = new ColumnDesk();
        desk.page(50, 2);
        desk.top(10, 0, 0, 0);
        for (int line = 0; line < 10; line++) {
            desk.box(30, 7, 2, 0);
            desk.glue(3, 1, 0, 1);
        }
        desk.penalty(-10000);
        int pages = desk.build();
        int items = desk.about(0, 3);
        int width = desk.item(0, 2, 1);
        int depth = desk.about(2, 1);
        int left = desk.count(1);
        // The example ends.
        CHECK.due("pages", pages, 3);
        CHECK.due("items", items, 5);
        CHECK.due("width", width, 15);
        CHECK.due("depth", depth, 2);
        CHECK.due("left", left, 0);
    }

    private static void theExampleIsTheOneInTheReadme() throws IOException {
        List<String> told = between(Files.readAllLines(README), "```java", "```");
        List<String> run = between(Files.readAllLines(TESTS.resolve("ReadmeTest.java")),
            "// The example begins.", "// The example ends.");
        CHECK.due("lines of the example", told.size(), run.size());
        CHECK.yes("the example has lines", !run.isEmpty());
        for (int i = 0; i < told.size() && i < run.size(); i++) {
            CHECK.yes("the example: " + told.get(i), told.get(i).equals(run.get(i)));
        }
        CHECK.due("answers that the example tells", answersTold(), 5);
    }

    /** The lines between two others, without what stands around their statements. */
    private static List<String> between(List<String> lines, String first, String last) {
        List<String> found = new ArrayList<>();
        boolean inside = false;
        for (String line : lines) {
            if (inside && line.strip().equals(last)) {
                return found;
            }
            if (inside) {
                found.add(line.replaceAll("//.*", "").strip());
            }
            inside |= line.strip().equals(first);
        }
        return found;
    }

    private static int answersTold() throws IOException {
        String[] due = {"int pages .*// 3:.*", "int items .*// 5:.*", "int width .*// 15:.*", "int depth .*// 2:.*",
            "int left .*// 0:.*"};
        int many = 0;
        for (String line : Files.readAllLines(README)) {
            for (String answer : due) {
                many += line.matches(answer) ? 1 : 0;
            }
        }
        return many;
    }

    private static void everyTestIsNamed() throws IOException {
        TreeSet<String> there = new TreeSet<>();
        for (String file : TESTS.toFile().list()) {
            if (file.endsWith("Test.java")) {
                there.add(file.replace(".java", ""));
            }
        }
        TreeSet<String> named = new TreeSet<>();
        Matcher names = Pattern.compile("`(\\w+Test)\\b").matcher(Files.readString(README));
        while (names.find()) {
            named.add(names.group(1));
        }
        CHECK.yes("tests named " + named + ", there are " + there, named.equals(there));
    }

    /** A name without a test's name ahead of it is of the test that was named last. */
    private static void everyNameInTheTableIsATest() throws IOException {
        String text = Files.readString(README);
        int table = text.indexOf(TABLE);
        CHECK.yes("the table is there", table >= 0);
        Matcher names = Pattern.compile("`(?:(\\w+Test)\\.)?(\\w+)(\\.\\.)?`").matcher(text.substring(Math.max(0, table)));
        String test = "";
        while (names.find()) {
            test = names.group(1) == null ? test : names.group(1);
            boolean begins = names.group(3) != null;
            CHECK.yes(test + "." + names.group(2), isMethod(test, names.group(2), begins));
        }
    }

    private static boolean isMethod(String test, String name, boolean begins) {
        if (!new File(TESTS.toFile(), test + ".java").isFile()) {
            return false;
        }
        try {
            for (Method m : Class.forName(test).getDeclaredMethods()) {
                if (m.getName().equals(name) || begins && m.getName().startsWith(name)) {
                    return true;
                }
            }
        } catch (ClassNotFoundException e) {
            return false;
        }
        return false;
    }
}
