import java.io.ByteArrayOutputStream;
import java.io.IOException;
import java.io.PrintStream;
import java.nio.charset.StandardCharsets;
import java.nio.file.DirectoryStream;
import java.nio.file.Files;
import java.nio.file.Path;
import java.util.Set;
import java.util.TreeSet;
import java.util.regex.Matcher;
import java.util.regex.Pattern;

/** README.md: its example compiles and answers as it says there, and it names every test. */
public final class ReadmeTest {
    private static final Path TESTS = Path.of("src", "test", "java");

    public static void main(String[] args) throws IOException {
        String readme = Files.readString(Path.of("README.md"));
        // Example.java is compiled with the tests, so the same text in README.md compiles too.
        dueText("the example", block(readme, "java"), Files.readString(TESTS.resolve("Example.java")));
        dueText("what it prints", block(readme, "text"), printedByExample());
        Set<String> tests = tests();
        Set<String> named = named(readme);
        for (String test : tests) {
            Due.due("README.md names " + test, named.contains(test), true);
        }
        for (String test : named) {
            Due.due("there is " + test, tests.contains(test), true);
        }
        Due.end();
    }

    /** What stands between the fences of the first block of this kind. */
    private static String block(String readme, String kind) {
        Pattern fenced = Pattern.compile("^```" + kind + "\n(.*?)^```$", Pattern.DOTALL | Pattern.MULTILINE);
        Matcher block = fenced.matcher(readme);
        return block.find() ? block.group(1) : "";
    }

    private static String printedByExample() {
        PrintStream console = System.out;
        ByteArrayOutputStream printed = new ByteArrayOutputStream();
        System.setOut(new PrintStream(printed, true, StandardCharsets.UTF_8));
        Example.main(new String[0]);
        System.setOut(console);
        return printed.toString(StandardCharsets.UTF_8).replace(System.lineSeparator(), "\n");
    }

    private static Set<String> tests() throws IOException {
        Set<String> tests = new TreeSet<>();
        try (DirectoryStream<Path> files = Files.newDirectoryStream(TESTS, "*Test.java")) {
            for (Path file : files) {
                tests.add(file.getFileName().toString().replace(".java", ""));
            }
        }
        return tests;
    }

    /** The rows of the README's tables. */
    private static Set<String> named(String readme) {
        Set<String> named = new TreeSet<>();
        Matcher row = Pattern.compile("^\\| `(\\w+Test)` \\|", Pattern.MULTILINE).matcher(readme);
        while (row.find()) {
            named.add(row.group(1));
        }
        return named;
    }

    private static void dueText(String name, String got, String want) {
        Due.due(name + " in README.md is as it is", got.equals(want), true);
        if (!got.equals(want)) {
            System.out.println("README.md has:\n" + got + "due is:\n" + want);
        }
    }
}
