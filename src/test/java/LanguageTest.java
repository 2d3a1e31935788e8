import java.io.IOException;
import java.nio.file.Files;
import java.nio.file.Path;
import java.util.List;
import java.util.Set;
import java.util.regex.Matcher;
import java.util.regex.Pattern;

/** What can be seen of the rules of LANGUAGE.md in the text of TrackRows.java. */
public final class LanguageTest {
    private static final Path PROGRAM = Path.of("src/main/java/TrackRows.java");

    // Every other name with a great first letter would be a part of the library that is not listed, or
    // a class that this list has not been told of yet.
    private static final Set<String> CLASSES = Set.of("TrackRows", "Places", "Clock", "Device", "Fence", "Bytes",
            "Matching", "Math", "IndexOutOfBoundsException", "IllegalArgumentException", "IllegalStateException");
    private static final String[] NEVER = {"\\bimport\\b", "\\bpackage\\b", "->", "::", "\\bfinally\\b",
        "\\btry\\b", "\\bcatch\\b", "\\bsynchronized\\b", "\\bassert\\b", "\\bstatic\\s*\\{", "\\bequals\\b",
        "\\bhashCode\\b", "\\btoString\\b", "\\bgetMessage\\b", "Exact\\b", "\\bdouble\\b", "\\bfloat\\b",
        "\\bvar\\b", "\\bnative\\b", "\\bvolatile\\b", "\"", "@", "while \\(true\\)", "for \\(;;\\)"};

    public static void main(String[] args) throws IOException {
        String code = withoutComments(Files.readString(PROGRAM));
        rules2To6(code);
        rule11(code.lines().toList());
        rule12(code);
        Check.end();
    }

    private static String withoutComments(String text) {
        return text.replaceAll("(?s)/\\*.*?\\*/", "").replaceAll("//[^\n]*", "");
    }

    private static void rules2To6(String code) {
        for (String word : NEVER) {
            Check.is("there is " + word, Pattern.compile(word).matcher(code).find(), false);
        }
        Matcher names = Pattern.compile("\\b[A-Z]\\w*[a-z]\\w*").matcher(code);
        while (names.find()) {
            Check.is("the library or the class has " + names.group(), CLASSES.contains(names.group()), true);
        }
        Matcher calls = Pattern.compile("\\bMath\\.(\\w+)").matcher(code);
        while (calls.find()) {
            Check.is("Math has " + calls.group(1), Set.of("abs", "max", "min").contains(calls.group(1)), true);
        }
        Matcher thrown = Pattern.compile("\\bthrow\\b[^;]*;").matcher(code);
        while (thrown.find()) {
            Check.is(thrown.group(), thrown.group().matches("throw new \\w+Exception\\(\\);"), true);
        }
    }

    /** "A method takes at most seven parameters. Methods stay short (some sixty lines)". */
    private static void rule11(List<String> lines) {
        int methods = 0;
        for (int k = 0; k < lines.size(); k++) {
            Matcher head = Pattern.compile("^((?: {4}){1,2})\\w[^=;]*\\(([^)]*)\\).*").matcher(lines.get(k));
            if (head.matches()) {
                methods++;
                Check.is("parameters: " + lines.get(k), head.group(2).split(",").length <= 7, true);
                Check.is("length: " + lines.get(k), linesUpTo(lines, k, head.group(1) + "}") <= 60, true);
            }
        }
        Check.is("methods were found", methods > 25, true);
    }

    private static int linesUpTo(List<String> lines, int from, String end) {
        for (int k = from; k < lines.size(); k++) {
            if (lines.get(k).equals(end)) {
                return k - from + 1;
            }
        }
        return Integer.MAX_VALUE;
    }

    /** No call makes anything but what it throws: rows are made by field initialisers and constructors alone. */
    private static void rule12(String code) {
        Matcher made = Pattern.compile("(?m)^.*\\bnew\\b.*$").matcher(code);
        while (made.find()) {
            String line = made.group().strip();
            boolean field = line.startsWith("private final ");
            boolean row = line.matches("(seconds|xs|ys) = new int\\[most\\];");
            boolean part = line.matches("(devices|fences)\\[k\\] = new \\w+\\(\\);");
            Check.is("made by a call: " + line, field || row || part || line.startsWith("throw new "), true);
        }
    }
}
