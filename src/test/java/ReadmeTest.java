import java.io.ByteArrayOutputStream;
import java.io.IOException;
import java.io.PrintStream;
import java.lang.reflect.Method;
import java.lang.reflect.Modifier;
import java.nio.charset.StandardCharsets;
import java.nio.file.Files;
import java.nio.file.Path;
import java.util.List;
import java.util.stream.Collectors;
import java.util.stream.Stream;

/** README.md shows its example as it is and what that prints, and names all that there is. */
final class ReadmeTest {
    private static final Path TESTS = Path.of("src/test/java");

    private final Due due = new Due();
    private final String readme;

    private ReadmeTest() throws IOException {
        readme = Files.readString(Path.of("README.md"));
    }

    public static void main(String[] args) throws IOException {
        ReadmeTest test = new ReadmeTest();
        test.example();
        test.callsAreNamed();
        test.partsAreNamed();
        test.textsAreRight();
        test.due.end();
    }

    /** What stands in the first block of that sort. */
    private String block(String sort) {
        String begin = "```" + sort + "\n";
        int from = readme.indexOf(begin);
        int to = readme.indexOf("```\n", from + begin.length());
        return from < 0 || to < 0 ? "" : readme.substring(from + begin.length(), to);
    }

    private void named(String name) {
        due.is("README names " + name, readme.contains("`" + name + "`") || readme.contains("`" + name + " ["), true);
    }

    private void example() throws IOException {
        due.part("the example");
        due.is("its source", block("java"), Files.readString(TESTS.resolve("Bedtime.java")));
        PrintStream before = System.out;
        ByteArrayOutputStream printed = new ByteArrayOutputStream();
        System.setOut(new PrintStream(printed, true, StandardCharsets.UTF_8));
        Bedtime.main(new String[0]);
        System.setOut(before);
        String lines = printed.toString(StandardCharsets.UTF_8).replace(System.lineSeparator(), "\n");
        due.is("what it prints", block("text"), lines);
    }

    private void callsAreNamed() {
        due.part("calls");
        for (Method m : MonsterCot.class.getDeclaredMethods()) {
            if (Modifier.isPublic(m.getModifiers())) {
                named(m.getName());
            }
        }
    }

    private void partsAreNamed() throws IOException {
        due.part("classes and tests");
        for (Class<?> inside : MonsterCot.class.getDeclaredClasses()) {
            named(inside.getSimpleName());
        }
        List<String> tests;
        try (Stream<Path> files = Files.list(TESTS)) {
            tests = files.map(file -> file.getFileName().toString()).collect(Collectors.toList());
        }
        for (String file : tests) {
            if (file.endsWith("Test.java")) {
                named(file.substring(0, file.length() - ".java".length()));
            }
        }
    }

    /** The texts of the table are of their sorts. */
    private void textsAreRight() {
        due.part("texts");
        String[] sorts = {"landing", "law", "week"};
        for (int sort = 0; sort < sorts.length; sort++) {
            String begin = "| " + sorts[sort] + " | `";
            int from = readme.indexOf(begin);
            due.is("a row for a " + sorts[sort], from >= 0, true);
            if (from >= 0) {
                int to = readme.indexOf('`', from + begin.length());
                String text = readme.substring(from + begin.length(), to).replace("\\|", "|");
                due.is("fault of " + text, Due.faultOf(new MonsterCot(), sort, text), Due.NONE);
            }
        }
    }
}
