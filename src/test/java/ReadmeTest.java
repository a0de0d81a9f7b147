import java.io.ByteArrayOutputStream;
import java.io.File;
import java.io.IOException;
import java.io.PrintStream;
import java.net.URL;
import java.net.URLClassLoader;
import java.nio.file.Files;
import java.nio.file.Path;
import java.util.ArrayList;
import java.util.List;
import java.util.regex.Matcher;
import java.util.regex.Pattern;
import javax.tools.ToolProvider;

/**
 * README.md: its example compiles with the class alone and prints what it says behind each line;
 * each test of the project stands in one of its tables, and each one there is a test.
 */
public final class ReadmeTest {
    private static final Path ROOT = Path.of(System.getProperty("root", "."));
    private static final Pattern PRINTED = Pattern.compile("System\\.out\\.println\\((.*)\\); *// ([^:]*):.*");

    public static void main(String[] args) throws Exception {
        String page = Files.readString(ROOT.resolve("README.md"));
        String example = example(page);
        List<String> calls = new ArrayList<>();
        List<String> due = new ArrayList<>();
        for (String line : example.split("\n")) {
            Matcher printed = PRINTED.matcher(line.trim());
            boolean told = printed.matches();
            Check.due("what is printed is told: " + line, told, line.contains("println"));
            if (told) {
                calls.add(printed.group(1));
                due.add(printed.group(2));
            }
        }
        Check.due("answers that the example shows", due.size() > 20, true);
        List<String> got = List.of(printedBy(example).split("\\R"));
        Check.due("lines that the example prints", got.size(), due.size());
        for (int i = 0; i < due.size() && i < got.size(); i++) {
            Check.same("README.md: " + calls.get(i), got.get(i), due.get(i));
        }
        tests(page);
        Check.end("ReadmeTest");
    }

    private static String example(String page) {
        int from = page.indexOf("```java\n");
        int to = page.indexOf("\n```\n", from);
        Check.due("README.md has an example", from >= 0 && to > from, true);
        return from >= 0 && to > from ? page.substring(from + 8, to + 1) : "";
    }

    private static String printedBy(String example) throws Exception {
        Path work = Files.createTempDirectory("readme");
        try {
            Path file = Files.writeString(work.resolve("Example.java"), example);
            String source = ROOT.resolve("src/main/java/StoneWalk.java").toString();
            int failed = ToolProvider.getSystemJavaCompiler()
                .run(null, null, null, "-d", work.toString(), source, file.toString());
            Check.due("the example compiles", failed, 0);
            return failed == 0 ? run(work) : "";
        } finally {
            remove(work);
        }
    }

    private static String run(Path classes) throws Exception {
        ByteArrayOutputStream bytes = new ByteArrayOutputStream();
        PrintStream before = System.out;
        URL[] path = {classes.toUri().toURL()};
        try (URLClassLoader loader = new URLClassLoader(path, ClassLoader.getPlatformClassLoader())) {
            System.setOut(new PrintStream(bytes, true));
            loader.loadClass("Example").getMethod("main", String[].class)
                .invoke(null, (Object) new String[0]);
        } finally {
            System.setOut(before);
        }
        return bytes.toString();
    }

    private static void remove(Path work) throws IOException {
        File[] files = work.toFile().listFiles();
        for (File file : files == null ? new File[0] : files) {
            Files.delete(file.toPath());
        }
        Files.delete(work);
    }

    private static void tests(String page) {
        String[] names = ROOT.resolve("src/test/java").toFile().list();
        Check.due("the tests are there", names != null, true);
        List<String> files = List.of(names == null ? new String[0] : names);
        for (String name : files) {
            String test = name.replace(".java", "");
            String row = test.endsWith("Test") ? "\n| `" + test + "` |" : "`" + test + "`";
            Check.due("README.md tells of " + name, page.contains(row), true);
        }
        Matcher row = Pattern.compile("\n\\| `(\\w+Test)` \\|").matcher(page);
        while (row.find()) {
            Check.due(row.group(1) + " is a test", files.contains(row.group(1) + ".java"), true);
        }
    }
}
