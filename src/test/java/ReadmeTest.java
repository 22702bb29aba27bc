import java.io.IOException;
import java.lang.reflect.Method;
import java.net.URL;
import java.net.URLClassLoader;
import java.nio.file.Files;
import java.nio.file.Path;
import java.util.List;
import java.util.regex.Matcher;
import java.util.regex.Pattern;
import java.util.stream.Stream;
import javax.tools.ToolProvider;

/** The example of README.md is compiled and run as it stands there: every call answers what is told behind it. */
public final class ReadmeTest {
    private static final Pattern BLOCK = Pattern.compile("(?s)```java\n(.*?)```");
    private static final Pattern CALL = Pattern.compile("(bench\\.\\w+\\(.*\\)); +// (-?\\w+)\\b.*");

    private ReadmeTest() {
    }

    public static void main(String[] args) throws Exception {
        Due due = new Due();
        Matcher block = BLOCK.matcher(Files.readString(Path.of("README.md")));
        due.isTrue("README.md has an example", block.find());
        List<String> lines = block.group(1).lines().toList();
        int[][] answers = answersOf(lines);
        for (int n = 0; n < answers[0].length; n++) {
            due.is("README.md, call " + (n + 1) + " of the example", answers[0][n], answers[1][n]);
        }
        for (Method call : FilmBench.class.getDeclaredMethods()) {
            boolean isFace = java.lang.reflect.Modifier.isPublic(call.getModifiers());
            due.isTrue("the example shows " + call.getName(), !isFace || block.group(1).contains("bench." + call.getName() + "("));
        }
        due.end();
    }

    /** What the calls answer, and what the example says that they answer. */
    private static int[][] answersOf(List<String> lines) throws Exception {
        StringBuilder got = new StringBuilder();
        StringBuilder said = new StringBuilder();
        for (String line : lines) {
            Matcher call = CALL.matcher(line);
            if (call.matches()) {
                got.append(call.group(1)).append(",\n");
                said.append(call.group(2).matches("[A-Z]+") ? "FilmBench." : "").append(call.group(2)).append(", ");
            } else if (!line.isBlank() && !line.startsWith("FilmBench bench")) {
                throw new IllegalStateException("no call with its answer: " + line);
            }
        }
        String program = "public class Example { public static int[][] run() { FilmBench bench = new FilmBench();\n"
                + "return new int[][] {{" + got + "}, {" + said + "}}; } }";
        Path room = Files.createTempDirectory("readme");
        try {
            return run(room, program);
        } finally {
            empty(room);
        }
    }

    private static int[][] run(Path room, String program) throws Exception {
        Path file = Files.writeString(room.resolve("Example.java"), program);
        int code = ToolProvider.getSystemJavaCompiler().run(null, null, null,
                "-cp", System.getProperty("java.class.path"), "-d", room.toString(), file.toString());
        if (code != 0) {
            throw new IllegalStateException("the example of README.md can't be compiled");
        }
        try (URLClassLoader loader = new URLClassLoader(new URL[] {room.toUri().toURL()}, ReadmeTest.class.getClassLoader())) {
            return (int[][]) loader.loadClass("Example").getMethod("run").invoke(null);
        }
    }

    private static void empty(Path room) throws IOException {
        try (Stream<Path> files = Files.list(room)) {
            for (Path file : files.toList()) Files.delete(file);
        }
        Files.delete(room);
    }
}
