import java.io.IOException;
import java.lang.reflect.Method;
import java.lang.reflect.Modifier;
import java.nio.file.Files;
import java.nio.file.Path;
import java.util.ArrayList;
import java.util.List;

/** README.md: what it shows is what happens, and it leaves out no call, no test, and not the way to run them. */
public final class ReadmeTest {
    private static final Path README = Path.of("README.md");
    private static final Path SELF = Path.of("src/test/java/ReadmeTest.java");

    public static void main(String[] args) throws IOException {
        List<String> page = Files.readAllLines(README);
        shownAsRun(page);
        loop();
        theText(page);
        faults(page);
        namesAll(String.join("\n", page));
        Due.is(".ci/run can be run", Files.isExecutable(Path.of(".ci/run")), true);
        Due.is("the page tells to run it", page.contains("    .ci/run"), true);
        Due.end();
    }

    /** The lines between the marks are the page's; those that begin with Due are not shown there. */
    private static void example() {
        // shown: 1
        FanNet x = new FanNet();           // the program \x.x
        Due.is("a new one", Due.said(x, 2), "\\a.a");
        // twenty bytes a call, of each number the highest first: "(\x.x x)(\y.y)" and blanks
        x.feed(677148718, 2015393833, 677148974, 2032738336, 538976288);
        int fault = x.tell(14);            // 0: it is a sound program, and its net is laid
        Due.is("fault", fault, 0);
        Due.is("as told", Due.said(x, 2), "(\\a.a a) (\\a.a)");
        int steps = x.run(0, 60);          // 17: all that is wanted is worked off
        Due.is("steps", steps, 17);
        Due.is("all is worked off", x.count(11), 1);
        int betas = x.count(4);            // 2 of these steps were applications of a function
        Due.is("betas", betas, 2);
        int signs = x.say(0);              // 4: the net is read back, and told by so many signs
        Due.is("signs", signs, 4);
        String read = "";
        for (int i = 0; i < signs; i++) {
            read += (char) x.said(i);      // \a.a
        }
        Due.is("read", read, "\\a.a");
        boolean same = x.same(0, 1);       // true: worked off plainly it is the same
        Due.is("same", same, true);
        // end: 1
    }

    // shown: 2
    static int tell(FanNet x, String text) {
        for (int i = 0; i < text.length(); i += 20) {
            int[] five = new int[5];
            for (int k = 0; k < 20; k++) {
                int sign = i + k < text.length() ? text.charAt(i + k) : ' ';
                five[k / 4] = five[k / 4] << 8 | sign;
            }
            x.feed(five[0], five[1], five[2], five[3], five[4]);
        }
        return x.tell(text.length());
    }
    // end: 2

    private static void shownAsRun(List<String> page) throws IOException {
        example();
        List<String> self = Files.readAllLines(SELF);
        Due.is("the example", block(page, 1).toString(), between(self, 1).toString());
        Due.is("the loop that feeds", block(page, 2).toString(), between(self, 2).toString());
    }

    private static void loop() {
        FanNet x = new FanNet();
        String longest = "\\x." + " ".repeat(696) + "x";
        Due.is("a text of 700", tell(x, longest), 0);
        Due.is("one of 701", Due.of(() -> tell(x, longest + " ")), Due.IAE);
    }

    private static void theText(List<String> page) {
        FanNet x = new FanNet();
        String text = "two=\\f x.f (f x); id=\\x.x; two two id";
        Due.is("the page's text is this", page.contains("    " + text), true);
        Due.is("a sound one", tell(x, text), 0);
        for (int n = 0; n < 20 && x.run(0, 60) == 60; n++) {
            Due.is("not at its end", x.count(3), 60 * (n + 1));
        }
        Due.is("it means", Due.said(x, 0), "\\a.a");
        Due.is("2 is", Due.said(Due.told("2"), 2), Due.said(Due.told("\\s z.s (s z)"), 2));
    }

    private static void faults(List<String> page) {
        String[] texts = {"\\x.", "abcdefghi", "x", "a=0;a=0;a", "9 9 9 9 9 9"};
        int[] places = {3, 0, 0, 4, 11};
        for (int i = 0; i < texts.length; i++) {
            FanNet x = new FanNet();
            int kind = i + 1;
            Due.is(texts[i], tell(x, texts[i]), kind);
            Due.is("place of " + texts[i], x.fault(), places[i]);
            Due.is("the page tells fault " + kind, page.stream().filter(line -> line.startsWith("| " + kind + " |")).count(), 1);
        }
    }

    private static void namesAll(String page) throws IOException {
        for (Method m : FanNet.class.getDeclaredMethods()) {
            if (Modifier.isPublic(m.getModifiers())) {
                Due.is("the page names " + m.getName(), page.matches("(?s).*\n\\|[^\n]*`" + m.getName() + "\\(.*"), true);
            }
        }
        try (var files = Files.list(SELF.getParent())) {
            for (Path file : files.toList()) {
                String name = file.getFileName().toString().replace(".java", "");
                Due.is("the page names " + name, !name.endsWith("Test") || page.contains("`" + name + "`"), true);
            }
        }
    }

    /** The n-th block of Java on the page. */
    private static List<String> block(List<String> page, int n) {
        List<String> found = new ArrayList<>();
        int blocks = 0;
        boolean inside = false;
        for (String line : page) {
            if (line.startsWith("```")) {
                inside = line.equals("```java");
                blocks += inside ? 1 : 0;
            } else if (inside && blocks == n) {
                found.add(line.strip());
            }
        }
        return found;
    }

    /** The lines of this file between the n-th marks that the page shows. */
    private static List<String> between(List<String> self, int n) {
        List<String> lines = self.stream().map(String::strip).toList();
        int from = lines.indexOf("// shown: " + n);
        int to = lines.indexOf("// end: " + n);
        return lines.subList(from + 1, to).stream().filter(line -> !line.startsWith("Due.")).toList();
    }
}
