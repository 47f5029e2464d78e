import java.io.IOException;
import java.nio.file.Files;
import java.nio.file.Path;
import java.util.ArrayList;
import java.util.LinkedHashMap;
import java.util.List;
import java.util.Map;
import java.util.regex.Matcher;
import java.util.regex.Pattern;
import java.util.stream.Stream;

    /**
     * Each test says in a remark of which promise or term it is, in the document's words; and none of these lacks a
     * test.
     */
public final class RemarksTest {
    private static final Checks C = new Checks("RemarksTest");
    private static final Path DOCUMENT = Path.of("..", "shared", "DOC.md");
    private static final Path TESTS = Path.of("src", "test", "java");
    private static final String NOT_OF_SENTENCES = "(Model|Language|Remarks|Readme)Test\\.java";
    private static final Pattern TEST = Pattern.compile("    static void (\\w+)\\(\\).*\\{");
    private static final Pattern REMARK =
        Pattern.compile(" /\\*\\* (Promise \\d+|Term [A-Za-z ]+|What it is): (\".*) \\*/");
    private static final Pattern QUOTE = Pattern.compile("\"([^\"]+)\"");

    public static void main(String[] args) {
        C.run(RemarksTest.class);
    }

    /** Texts of the document by "Promise 1", "Terms", "What it is" .., without marks and calls. */
    private static Map<String, String> sections() throws IOException {
        Map<String, String> all = new LinkedHashMap<>();
        for (String part : Files.readString(DOCUMENT).split("\n## ")) {
            String head = part.substring(0, Math.max(0, part.indexOf('\n'))).replaceAll("^(Promise \\d+):.*", "$1");
            String text = part.substring(head.length())
                .replaceFirst("^: \\w[^\n]*\n", "\n")
                .replaceAll("\nAhead of the calls [^\n]*", "")
                .replaceAll("\n```(text)?", "\n")
                .replaceAll("\n==== \\d ", "\n")
                .replaceFirst("\n`[^`]*\\)`:", "\n");
            all.put(head, text.replaceAll("\\s+", " ").trim());
        }
        return all;
    }

    private static List<Path> sources() throws IOException {
        try (Stream<Path> files = Files.list(TESTS)) {
            return files.filter(f -> f.toString().endsWith("Test.java"))
                .filter(f -> !f.getFileName().toString().matches(NOT_OF_SENTENCES)).sorted().toList();
        }
    }

    /** The remarks ahead of all tests, each as one line, by the test; "" if there is none. */
    private static Map<String, String> remarks() throws IOException {
        Map<String, String> all = new LinkedHashMap<>();
        for (Path source : sources()) {
            StringBuilder ahead = new StringBuilder();
            for (String line : Files.readAllLines(source)) {
                Matcher test = TEST.matcher(line);
                if (test.matches()) {
                    all.put(source.getFileName() + " " + test.group(1), ahead.toString().replaceAll("\\s+", " "));
                }
                boolean isRemark = line.matches(" +/?\\*.*");
                if (!isRemark || line.contains("/**")) {
                    ahead.setLength(0);
                }
                if (isRemark) {
                    ahead.append(' ').append(line.trim().replaceFirst("^\\*(?!/)", ""));
                }
            }
        }
        return all;
    }

    private static String sectionOf(String name) {
        return name.startsWith("Term ") ? "Terms" : name;
    }

    private static List<String> quotes(String words) {
        List<String> all = new ArrayList<>();
        Matcher quote = QUOTE.matcher(words);
        while (quote.find()) {
            all.add(quote.group(1));
        }
        return all;
    }

    static void eachTestHasARemark() throws IOException {
        for (Map.Entry<String, String> e : remarks().entrySet()) {
            C.due("a remark ahead of " + e.getKey(), REMARK.matcher(e.getValue()).matches() ? 1 : 0, 1);
        }
    }

    static void eachRemarkHasTheDocumentsWords() throws IOException {
        Map<String, String> sections = sections();
        for (Map.Entry<String, String> e : remarks().entrySet()) {
            Matcher remark = REMARK.matcher(e.getValue());
            if (remark.matches()) {
                String text = sections.getOrDefault(sectionOf(remark.group(1)), "");
                String term = remark.group(1).replaceFirst("^Term ", "");
                boolean isTerm = !term.equals(remark.group(1));
                C.due(e.getKey() + ": the term " + term, !isTerm || text.contains(term) ? 1 : 0, 1);
                for (String quote : quotes(remark.group(2))) {
                    C.due(e.getKey() + ": the words " + quote, text.contains(quote) ? 1 : 0, 1);
                }
            }
        }
    }

    static void allWordsOfTermsAndPromisesAreTested() throws IOException {
        Map<String, String> sections = sections();
        Map<String, StringBuilder> left = new LinkedHashMap<>();
        sections.forEach((name, text) -> left.put(name, new StringBuilder(text)));
        for (String line : remarks().values()) {
            Matcher remark = REMARK.matcher(line);
            if (remark.matches()) {
                String name = sectionOf(remark.group(1));
                for (String quote : quotes(remark.group(2))) {
                    strike(left.get(name), sections.get(name), quote);
                }
            }
        }
        C.due("promises", left.keySet().stream().filter(name -> name.startsWith("Promise ")).count(), 35);
        left.keySet().removeIf(name -> !name.startsWith("Promise ") && !name.equals("Terms"));
        for (Map.Entry<String, StringBuilder> e : left.entrySet()) {
            String words = e.getValue().toString().replaceAll("[^A-Za-z0-9]+", " ").trim();
            C.same("what no test is of, of " + e.getKey(), words, "");
        }
    }

    /** Strikes out words of a section wherever they stand in it. */
    private static void strike(StringBuilder left, String section, String words) {
        for (int at = section.indexOf(words); at >= 0; at = section.indexOf(words, at + 1)) {
            left.replace(at, at + words.length(), ".".repeat(words.length()));
        }
    }
}
