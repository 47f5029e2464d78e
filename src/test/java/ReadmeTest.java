import java.io.IOException;
import java.lang.reflect.InvocationTargetException;
import java.net.URL;
import java.net.URLClassLoader;
import java.nio.file.Files;
import java.nio.file.Path;
import java.util.List;
import java.util.regex.Matcher;
import java.util.regex.Pattern;

/** The calls that README.md shows answer what it says behind them. */
public final class ReadmeTest {
    private static final Checks C = new Checks("ReadmeTest");
    private static final Pattern EXAMPLE = Pattern.compile("(?s)\n```java\n(.*?)\n```\n");
    private static final Pattern CALL = Pattern.compile("(x\\.\\w+\\(.*\\)); +// (-?\\d+)(:.*)?");

    private static int calls;

    public static void main(String[] args) {
        C.run(ReadmeTest.class);
    }

    /** The compiled example tells each of its calls by this. */
    public static void due(String call, long got, long want) {
        calls++;
        C.due(call, got, want);
    }

    static void example() throws IOException, InterruptedException {
        Matcher example = EXAMPLE.matcher(Files.readString(Path.of("README.md")));
        C.due("README.md has an example", example.find() ? 1 : 0, 1);
        List<String> lines = example.group(1).lines().toList();
        Path out = Files.createTempDirectory("readme");
        Path source = out.resolve("Example.java");
        Files.writeString(source, program(lines));
        String path = System.getProperty("java.class.path");
        Process javac = new ProcessBuilder("javac", "-cp", path, "-d", out.toString(), source.toString())
            .inheritIO().start();
        C.due("the example compiles", javac.waitFor(), 0);
        runExample(out);
        long told = lines.stream().filter(line -> line.contains("//")).count();
        C.due("lines with an answer that are calls", calls, told);
        remove(out);
    }

    private static String program(List<String> lines) {
        StringBuilder all = new StringBuilder("public final class Example {\n public static void run() {\n");
        for (String line : lines) {
            Matcher call = CALL.matcher(line);
            if (call.matches()) {
                String told = "\"" + call.group(1) + "\", " + call.group(1) + ", " + call.group(2);
                all.append("ReadmeTest.due(").append(told).append(");\n");
            } else {
                all.append(line).append('\n');
            }
        }
        return all.append(" }\n}\n").toString();
    }

    private static void runExample(Path out) throws IOException {
        try (URLClassLoader loader = new URLClassLoader(new URL[] {out.toUri().toURL()})) {
            loader.loadClass("Example").getMethod("run").invoke(null);
        } catch (ReflectiveOperationException e) {
            C.same("the example", String.valueOf(e instanceof InvocationTargetException ? e.getCause() : e), "run");
        }
    }

    private static void remove(Path out) throws IOException {
        for (String name : List.of("Example.java", "Example.class")) {
            Files.deleteIfExists(out.resolve(name));
        }
        Files.delete(out);
    }
}
