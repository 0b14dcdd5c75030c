import java.io.IOException;
import java.net.URL;
import java.net.URLClassLoader;
import java.nio.file.Files;
import java.nio.file.Path;
import java.util.ArrayList;
import java.util.Comparator;
import java.util.List;
import java.util.regex.Matcher;
import java.util.regex.Pattern;
import java.util.stream.Stream;
import javax.tools.ToolProvider;

/**
 * The example of README.md compiles, and each of its calls answers what stands behind it: a number
 * or a boolean after "//", up to a colon or the line's end.
 */
public final class ReadmeTest {
    private static final Path README = Path.of("README.md");
    private static final Pattern CALL =
        Pattern.compile("(?:int (\\w+) = )?(harbour\\..*);\\s*// (-?\\d+|true|false)(?::.*)?");

    private ReadmeTest() {
    }

    public static void main(String[] args) throws IOException, ReflectiveOperationException {
        Path folder = Files.createTempDirectory("readme");
        try {
            compile(folder, program(example()));
            for (Object[] row : answers(folder)) {
                Check.due("README.md: " + row[0], number(row[1]), () -> number(row[2]));
            }
        } finally {
            remove(folder);
        }
        Check.end();
    }

    private static List<String> example() throws IOException {
        List<String> found = new ArrayList<>();
        boolean within = false;
        for (String line : Files.readAllLines(README)) {
            if (line.startsWith("```")) {
                within = line.equals("```java");
            } else if (within) {
                found.add(line);
            }
        }
        return found;
    }

    private static String program(List<String> lines) {
        StringBuilder text = new StringBuilder("import java.util.*;\n"
            + "public final class Example {\n"
            + "    public static List<Object[]> answers() {\n"
            + "        List<Object[]> rows = new ArrayList<>();\n");
        for (String line : lines) {
            text.append(withRow(line)).append('\n');
        }
        return text + "        return rows;\n    }\n}\n";
    }

    /** A line of the example that also keeps its text, what is due, and what it answered. */
    private static String withRow(String line) {
        Matcher call = CALL.matcher(line);
        if (!call.matches()) {
            return line;
        }
        String name = call.group(1);
        String row = "rows.add(new Object[] {\"" + call.group(2) + "\", " + call.group(3) + ", ";
        if (name == null) {
            return row + call.group(2) + "});";
        }
        return "int " + name + " = " + call.group(2) + ";\n" + row + name + "});";
    }

    private static void compile(Path folder, String program) throws IOException {
        Path source = folder.resolve("Example.java");
        Files.writeString(source, program);
        int exit = ToolProvider.getSystemJavaCompiler().run(null, null, null,
            "-d", folder.toString(), "-cp", System.getProperty("java.class.path"),
            source.toString());
        if (exit != 0) {
            throw new IllegalStateException("the example of README.md does not compile");
        }
    }

    private static List<Object[]> answers(Path folder)
            throws IOException, ReflectiveOperationException {
        List<Object[]> rows = new ArrayList<>();
        try (URLClassLoader loader = new URLClassLoader(new URL[] {folder.toUri().toURL()})) {
            Object made = loader.loadClass("Example").getMethod("answers").invoke(null);
            for (Object row : (List<?>) made) {
                rows.add((Object[]) row);
            }
        }
        return rows;
    }

    private static int number(Object answer) {
        if (answer instanceof Boolean b) {
            return b ? 1 : 0;
        }
        return (Integer) answer;
    }

    private static void remove(Path folder) throws IOException {
        try (Stream<Path> all = Files.walk(folder)) {
            for (Path path : all.sorted(Comparator.reverseOrder()).toList()) {
                Files.delete(path);
            }
        }
    }
}
