import java.util.ArrayList;
import java.util.List;
import java.util.Random;

/** Texts for tests: written ones, random ones, and spoilt ones. */
final class Programs {
    static final String[] WRITTEN = {
        "\\x.x", "(\\x.x x)(\\y.y)", "(\\x y.x) (\\a.a) (\\b.b b)", "2", "0", "9", "2 2", "3 2", "2 3", "2 2 2", "2 2 2 2",
        "3 3", "2 2 3", "4 2", "2 4", "2 2 2 (\\x.x)", "3 2 (\\x.x)(\\x.x)", "(\\x.x x)(\\x.x x)", "(\\x.x x x)(\\x.x x x)",
        "(\\x y.y)((\\x.x x)(\\x.x x))", "y=\\f.(\\x.f (x x))(\\x.f (x x)); y (\\a b.b)", "y=\\f.(\\x.f (x x))(\\x.f (x x)); y (\\a.a)",
        "y=\\f.(\\x.f (x x))(\\x.f (x x)); y (\\a b.b a)",
        "s=\\x y z.x z (y z); k=\\x y.x; s k k", "s=\\x y z.x z (y z); k=\\x y.x; s k k (s k k) s", "s=\\x y z.x z (y z); k=\\x y.x; s s s k",
        "add=\\m n s z.m s (n s z); add 2 3", "mul=\\m n s.m (n s); mul 2 3", "mul=\\m n s.m (n s); mul 3 3",
        "pair=\\a b f.f a b; fst=\\p.p (\\a b.a); snd=\\p.p (\\a b.b); fst (pair 1 2)",
        "pred=\\n f x.n (\\g h.h (g f)) (\\u.x) (\\u.u); pred 3", "pred=\\n f x.n (\\g h.h (g f)) (\\u.x) (\\u.u); pred (pred 3)",
        "t=\\a b.a; f=\\a b.b; and=\\a b.a b f; and t f", "(\\f.f (f (\\x.x))) (\\y.(\\z.z z) (y y))",
        "(\\x.x (x x)) (\\a.a)", "\\x y z.z y x", "\\x.(\\y.y x)(\\z.z x x)", "(\\f.\\x.f (f x)) (\\g.\\y.g (g y)) (\\z.z)",
        "a=\\x.x; a a a a a a a a a a a", "(\\n.n (\\p z.z (\\a b.b a)) n) 2", "\\f.(\\x.f x x)(\\x.f x x)",
        "\\a b c d e f g h i j.a (b (c (d (e (f (g (h (i j))))))))", "\\a b c.a (b (c (a (b (c (a (b (c a))))))))",
        "\\s z.s (s (s (s (s (s (s (s (s (s (s (s (s (s (s z))))))))))))))", "(\\x.x x) 2", "(\\x.x x) 3", "(\\x y.x y x) 2 2", "2 (\\x.x x) (\\y.y)", "2 (\\x.x x x) (\\y.y)",
        "2 (\\f x.f (f x)) (\\x.x x) (\\x.x)", "(\\x.\\y.x (x y)) ((\\x.x x) (\\x.x))", "5 5", "9 2", "2 9", "(\\a.a (\\b c.c b) a) (\\d.d d)",
        // here a function comes to lie within itself, so that only the stacks tell whose a variable is
        "(\\b.((\\a.a) b) b ((b b) (b b))) ((\\n e c.\\c.e c c)(\\c.\\y.\\x.\\d.\\e c x.2))", "(\\b.b b)((\\a.\\y.a a y (\\x.x)) 2)",
        "\\y.(\\d.d (\\e.\\b.\\b.\\y.b) (d d))(\\a n e.((\\f.n (\\x.x) f n) ((e n n e) (\\c.n c n))))",
    };

    private final Random random;

    Programs(long seed) {
        random = new Random(seed);
    }

    String any() {
        int way = random.nextInt(10);
        String text = way < 3 ? WRITTEN[random.nextInt(WRITTEN.length)] : program();
        if (way == 9) {
            text = spoilt(text);
        }
        return text.length() > 700 ? text.substring(0, 700) : text;
    }

    String sound() {
        String text = random.nextInt(10) < 3 ? WRITTEN[random.nextInt(WRITTEN.length)] : program();
        return text.length() > 700 ? "\\x.x" : text;
    }

    private static final String[] NAMES = {"a", "b", "c", "d", "e", "x", "y", "z", "fan", "net", "abcdefgh"};

    String program() {
        StringBuilder out = new StringBuilder();
        List<String> told = new ArrayList<>();
        int n = random.nextInt(4) == 0 ? random.nextInt(5) : 0;
        for (int i = 0; i < n; i++) {
            String name = NAMES[random.nextInt(NAMES.length)];
            if (told.contains(name) && random.nextInt(20) > 0) {
                continue;
            }
            out.append(name).append(blank()).append('=').append(blank());
            term(out, told, 3 + random.nextInt(10));
            out.append(";").append(blank());
            told.add(name);
        }
        term(out, told, 4 + random.nextInt(random.nextInt(3) == 0 ? 50 : 22));
        return out.toString();
    }

    private String blank() {
        return random.nextInt(3) == 0 ? random.nextInt(2) == 0 ? " " : "\n" : "";
    }

    private void term(StringBuilder out, List<String> known, int size) {
        boolean redex = random.nextInt(3) == 0 && size > 5;
        if (redex) {
            int left = 2 + random.nextInt(size - 3);
            out.append('(');
            function(out, known, left);
            out.append(')').append(blank());
            atom(out, known, size - left - 1);
            return;
        }
        if (random.nextInt(2) == 0 || known.isEmpty()) {
            function(out, known, size);
            return;
        }
        int n = 1 + random.nextInt(Math.max(1, Math.min(4, size)));
        for (int i = 0; i < n; i++) {
            if (i > 0) {
                out.append(' ');
            }
            atom(out, known, size / n);
        }
    }

    private void function(StringBuilder out, List<String> known, int size) {
        out.append('\\');
        List<String> inner = new ArrayList<>(known);
        int names = 1 + (random.nextInt(3) == 0 ? random.nextInt(3) : 0);
        for (int i = 0; i < names; i++) {
            String name = NAMES[random.nextInt(NAMES.length)];
            inner.add(name);
            out.append(i > 0 ? " " : blank()).append(name);
        }
        out.append(blank()).append('.').append(blank());
        term(out, inner, size - names);
    }

    private void atom(StringBuilder out, List<String> known, int size) {
        if (size <= 2 || random.nextInt(5) == 0) {
            if (!known.isEmpty() && random.nextInt(12) > 0) {
                out.append(known.get(known.size() - 1 - random.nextInt(Math.min(known.size(), 1 + random.nextInt(6)))));
            } else if (random.nextInt(3) > 0) {
                out.append("(\\x.x)");
            } else {
                out.append(random.nextInt(random.nextInt(3) == 0 ? 10 : 4));
            }
            return;
        }
        out.append('(');
        term(out, known, size - 1);
        out.append(')');
    }

    private static final String SIGNS = "\\.=;()ab1 \n?A\tabcdefghi(=;";

    String spoilt(String text) {
        StringBuilder out = new StringBuilder(text);
        int n = 1 + random.nextInt(3);
        for (int i = 0; i < n && out.length() > 0; i++) {
            int at = random.nextInt(out.length());
            switch (random.nextInt(4)) {
                case 0:
                    out.deleteCharAt(at);
                    break;
                case 1:
                    out.insert(at, SIGNS.charAt(random.nextInt(SIGNS.length())));
                    break;
                case 2:
                    out.setCharAt(at, SIGNS.charAt(random.nextInt(SIGNS.length())));
                    break;
                default:
                    out.setLength(at);
                    break;
            }
        }
        return out.toString();
    }
}
