import java.io.ByteArrayOutputStream;
import java.io.IOException;
import java.io.PrintStream;
import java.net.URL;
import java.net.URLClassLoader;
import java.nio.file.Files;
import java.nio.file.Path;
import java.util.ArrayList;
import java.util.List;
import java.util.regex.Matcher;
import java.util.regex.Pattern;
import java.util.stream.Stream;
import javax.tools.ToolProvider;

/** README.md: its program compiles and prints what stands behind its lines, and its tables are whole. */
public final class ReadmeTest {
    private static final Pattern PROGRAM = Pattern.compile("```java\n(.*?)```", Pattern.DOTALL);
    private static final Pattern PRINTS = Pattern.compile("System\\.out\\.println\\(.*\\);\\s+// (-?\\d+)");
    private static final Pattern PROMISE = Pattern.compile("(?m)^## Promise (\\d+): (\\w+)$");
    private static final Path PLACE = Path.of("build/readme");
    private static final Due due = new Due();

    public static void main(String[] args) throws Exception {
        String readme = Files.readString(Path.of("README.md"));
        program(readme);
        calls(readme);
        constants(readme);
        tests(readme);
        due.end("ReadmeTest");
    }

    private static void program(String readme) throws Exception {
        Matcher found = PROGRAM.matcher(readme);
        due.same("a program", found.find(), true);
        String source = found.group(1);
        List<String> told = new ArrayList<>();
        for (String line : source.split("\n")) {
            Matcher prints = PRINTS.matcher(line);
            boolean answered = prints.find();
            due.same("an answer behind: " + line, answered, line.contains("println"));
            if (answered) {
                told.add(prints.group(1));
            }
        }
        due.same("what the program prints", printed(source), told);
    }

    private static List<String> printed(String source) throws Exception {
        Files.createDirectories(PLACE);
        Path file = PLACE.resolve("Try.java");
        Files.writeString(file, source);
        due.is("javac", ToolProvider.getSystemJavaCompiler().run(null, null, null,
                "-d", PLACE.toString(), "src/main/java/DustLayers.java", file.toString()), 0);
        PrintStream out = System.out;
        ByteArrayOutputStream text = new ByteArrayOutputStream();
        try (URLClassLoader loader = new URLClassLoader(new URL[] {PLACE.toUri().toURL()}, null)) {
            System.setOut(new PrintStream(text, true));
            loader.loadClass("Try").getMethod("main", String[].class).invoke(null, (Object) new String[0]);
        } finally {
            System.setOut(out);
        }
        return text.toString().lines().toList();
    }

    /** Every promise but the first, which is the constructor, stands in the table with its number. */
    private static void calls(String readme) throws IOException {
        Matcher promise = PROMISE.matcher(Files.readString(Path.of("../shared/DOC.md")));
        int seen = 0;
        while (promise.find()) {
            String call = promise.group(1) + " `" + promise.group(2) + "`";
            due.same(call, Pattern.compile("(?<!\\d)" + Pattern.quote(call)).matcher(readme).find(), true);
            seen++;
        }
        due.is("promises that are calls", seen, 47);
    }

    private static void constants(String readme) throws Exception {
        for (var field : DustLayers.class.getFields()) {
            String row = "| `" + field.getName() + "` | " + field.getInt(null) + " |";
            due.same(row, readme.contains(row), true);
        }
    }

    private static void tests(String readme) throws IOException {
        try (Stream<Path> files = Files.list(Path.of("src/test/java"))) {
            for (Path file : files.toList()) {
                String name = file.getFileName().toString().replace(".java", "");
                due.same("README names " + name, readme.contains("`" + name + "`"), true);
            }
        }
    }
}
