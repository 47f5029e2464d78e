import java.io.IOException;
import java.lang.reflect.Constructor;
import java.lang.reflect.Field;
import java.lang.reflect.Method;
import java.lang.reflect.Modifier;
import java.nio.file.Files;
import java.nio.file.Path;
import java.util.List;
import java.util.Set;
import java.util.TreeSet;
import java.util.regex.Matcher;
import java.util.regex.Pattern;

/** The document's face, and those rules of ../shared/LANGUAGE.md that can be read off the class. */
public final class LanguageTest {
    private static final Checks C = new Checks("LanguageTest");
    private static final Path SOURCE = Path.of("src", "main", "java", "NineSmells.java");
    private static final Path DOCUMENT = Path.of("..", "shared", "DOC.md");

    public static void main(String[] args) {
        C.run(LanguageTest.class);
    }

    static void constants() {
        C.due("UNKNOWN", NineSmells.UNKNOWN, -1);
        C.due("OUTSIDE", NineSmells.OUTSIDE, -2);
        C.due("STATE", NineSmells.STATE, -3);
        C.due("FULL", NineSmells.FULL, -4);
        C.due("NONE", NineSmells.NONE, -9);
        C.due("LOST", NineSmells.LOST, Long.MIN_VALUE);
    }

    /** The methods that the document's Java lines tell, and no others, are public. */
    static void face() throws IOException {
        Set<String> told = new TreeSet<>();
        for (String line : Files.readAllLines(DOCUMENT)) {
            String text = line.trim();
            if (text.matches("public (int|long) \\w+\\(.*\\);")) {
                int open = text.indexOf('(');
                int numbers = text.charAt(open + 1) == ')' ? 0 : text.split(",").length;
                told.add(text.substring("public ".length(), open) + " " + numbers);
            }
        }
        Set<String> there = new TreeSet<>();
        for (Method m : NineSmells.class.getDeclaredMethods()) {
            if (Modifier.isPublic(m.getModifiers())) {
                there.add(m.getReturnType() + " " + m.getName() + " " + m.getParameterCount());
            }
        }
        C.due("public methods " + there + ", told " + told, there.equals(told) ? 1 : 0, 1);
        C.due("how many methods are told", told.size(), 34);
    }

    static void members() {
        C.due("final", Modifier.isFinal(NineSmells.class.getModifiers()) ? 1 : 0, 1);
        Set<String> names = new TreeSet<>();
        for (Method m : NineSmells.class.getDeclaredMethods()) {
            if (Modifier.isPublic(m.getModifiers())) {
                names.add(m.getName());
            }
        }
        for (Method m : NineSmells.class.getDeclaredMethods()) {
            boolean shown = Modifier.isPublic(m.getModifiers());
            boolean hidden = Modifier.isPrivate(m.getModifiers());
            C.due(m + " is public or private", shown || hidden ? 1 : 0, 1);
            C.due(m + " bears no public one's name", hidden && names.contains(m.getName()) ? 1 : 0, 0);
            C.due(m + " has few parameters", m.getParameterCount() <= 7 ? 1 : 0, 1);
        }
        int fields = 0;
        for (Field f : NineSmells.class.getDeclaredFields()) {
            boolean isStatic = Modifier.isStatic(f.getModifiers());
            boolean isConstant = isStatic && Modifier.isFinal(f.getModifiers());
            fields += isStatic ? 0 : 1;
            C.due(f + " is private or a constant", Modifier.isPrivate(f.getModifiers()) || isConstant ? 1 : 0, 1);
            C.due(f + " is no static state", isStatic && !isConstant ? 1 : 0, 0);
        }
        C.due(fields + " fields", fields <= 20 ? 1 : 0, 1);
        for (Constructor<?> c : NineSmells.class.getDeclaredConstructors()) {
            C.due(c + " takes nothing", c.getParameterCount(), 0);
        }
        for (Class<?> inside : NineSmells.class.getDeclaredClasses()) {
            int m = inside.getModifiers();
            C.due(inside + " is static, not public", Modifier.isStatic(m) && !Modifier.isPublic(m) ? 1 : 0, 1);
        }
    }

    static void words() throws IOException {
        String source = Files.readString(SOURCE);
        String[] banned = {"throw", "throws", "try", "catch", "synchronized", "assert", "package", "hashCode", "equals",
            "toString", "Exception", "Error", "Object", "System.out", "System.err", "Random", "Thread", "native",
            "volatile", "->", "::", "Exact"};
        for (String word : banned) {
            boolean isName = Character.isLetter(word.charAt(0)) && !word.equals("Exact");
            String pattern = isName ? "\\b" + Pattern.quote(word) + "\\b" : Pattern.quote(word);
            C.due("the source has " + word, Pattern.compile(pattern).matcher(source).find() ? 1 : 0, 0);
        }
        for (String line : source.split("\n")) {
            boolean isImport = line.startsWith("import ");
            C.due(line, isImport && !line.equals("import java.util.Arrays;") ? 1 : 0, 0);
        }
        C.due("signs beyond 126", source.chars().filter(c -> c > 126).count(), 0);
    }

    /** Of the library's names only such stand in the class as rule 4 tells, and LOST's own of the document's face. */
    static void library() throws IOException {
        String code = Files.readString(SOURCE).replaceAll("/\\*\\*[^\n]*|// [^\n]*", "");
        Set<String> told = Set.of("Math.min", "Math.max", "Math.abs", "Integer.bitCount", "System.arraycopy",
            "Arrays.fill", "Long.MIN_VALUE");
        Matcher name = Pattern.compile("\\b[A-Z]\\w*\\.\\w+").matcher(code);
        Set<String> there = new TreeSet<>();
        while (name.find()) {
            there.add(name.group());
        }
        C.due("names of the library: " + there, told.containsAll(there) && !there.isEmpty() ? 1 : 0, 1);
        Set<String> made = new TreeSet<>();
        Matcher begun = Pattern.compile("\\bnew (\\w+)").matcher(code);
        while (begun.find()) {
            made.add(begun.group(1));
        }
        C.same("what is made", made.toString(), "[Paper, Sheet, Sign, int]");
    }

    /** A divisor is a number written out or a name of the class's constants; any other stands in `tested`. */
    static void divisors() throws IOException {
        Set<String> tested = Set.of("half", "d");
        String code = Files.readString(SOURCE).replaceAll("/\\*\\*[^\n]*|// [^\n]*", "");
        Matcher divisor = Pattern.compile("[/%]=? ?([(\\w]+)").matcher(code);
        int found = 0;
        while (divisor.find()) {
            String by = divisor.group(1);
            boolean isConstant = by.matches("[1-9]\\d*|[A-Z_]{2,}");
            C.due("divided by " + by, isConstant || tested.contains(by) ? 1 : 0, 1);
            found++;
        }
        C.due("found any", found > 0 ? 1 : 0, 1);
    }

    /** Methods stay below sixty lines: from a line that begins one to the brace that ends it. */
    static void lengths() throws IOException {
        List<String> lines = Files.readAllLines(SOURCE);
        int begun = -1;
        for (int k = 0; k < lines.size(); k++) {
            if (lines.get(k).matches("( {4}| {8})(public|private) [^=;]*\\) \\{")) {
                begun = k;
            } else if (begun >= 0 && lines.get(k).matches("( {4}| {8})}")
                && lines.get(k).indexOf('}') == lines.get(begun).indexOf('p')) {
                C.due("lines of " + lines.get(begun), k - begun < 60 ? 1 : 0, 1);
                begun = -1;
            }
        }
    }
}
