import java.io.IOException;
import java.nio.file.Files;
import java.nio.file.Path;
import java.util.List;
import java.util.regex.Matcher;
import java.util.regex.Pattern;

/** The rules of LANGUAGE.md that can be seen in the program's text. */
public final class LanguageTest {
    private static final String[] NEVER = {
        "->", "::", "\\btry\\b", "\\bcatch\\b", "\\bfinally\\b", "\\bsynchronized\\b", "\\bassert\\b", "\\bvar\\b", "\\bstatic\\s*\\{",
        "\\bObject\\b", "\\bthis\\s*\\)", "\\bString\\b", "\\bdouble\\b", "\\bfloat\\b", "\\bprotected\\b", "\\bnative\\b", "\"\\s*\\+",
        "\\+\\s*\"", "\\bpackage\\b", "Exact\\b", "\\bhashCode\\b", "\\bgetClass\\b",
    };

    public static void main(String[] args) throws IOException {
        List<String> lines = Files.readAllLines(Path.of("src/main/java/FanNet.java"));
        StringBuilder code = new StringBuilder();
        for (String line : lines) {
            String bare = line.strip();
            boolean comment = bare.startsWith("//") || bare.startsWith("*") || bare.startsWith("/*");
            code.append(comment ? "" : line).append('\n');
            Due.is("a line of plain signs: " + line, line.chars().allMatch(c -> c >= 32 && c < 127), true);
        }
        for (String never : NEVER) {
            Due.is("there is no " + never, Pattern.compile(never).matcher(code).find(), false);
        }
        library(code);
        methodLengths(lines);
        Due.end();
    }

    private static void library(CharSequence code) {
        Matcher used = Pattern.compile("\\b(System|Arrays|Math|Integer|Long|java)\\.([a-zA-Z.]+)").matcher(code);
        while (used.find()) {
            boolean allowed = List.of("System.arraycopy", "Arrays.copyOf", "Math.max", "Math.min", "Math.floorMod", "java.util.Arrays",
                "java.util.NoSuchElementException").contains(used.group());
            Due.is(used.group() + " is allowed", allowed, true);
        }
        Matcher thrown = Pattern.compile("throw\\s+(.*)").matcher(code);
        while (thrown.find()) {
            Due.is(thrown.group(), thrown.group(1).matches("new (IllegalArgument|NoSuchElement)Exception\\(\"[^\"]*\"\\);"), true);
        }
    }

    /** A method begins with a brace at its line's end and ends with one at the same depth. */
    private static void methodLengths(List<String> lines) {
        int start = -1;
        String indent = "";
        for (int i = 0; i < lines.size(); i++) {
            String line = lines.get(i);
            if (start < 0 && line.matches("( {4}| {8})\\S.*\\) (throws .*)?\\{") && !line.contains(" class ")) {
                start = i;
                indent = line.substring(0, line.length() - line.stripLeading().length());
            } else if (start >= 0 && line.equals(indent + "}")) {
                Due.is("lines of " + lines.get(start).strip(), i - start + 1 <= 60, true);
                start = -1;
            }
        }
    }
}
