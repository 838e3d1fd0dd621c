/** Promises 12 to 17: part, say, said, same, plain, redexes. */
public final class TermTest {
    private static final String TWICE = "(\\x.x x)(\\y.y)";

    public static void main(String[] args) {
        parts();
        sayings();
        letters();
        latestSaying();
        sames();
        plains();
        mostParts();
        mostRounds();
        redexes();
        noPlainTerm();
        wrongNumbers();
        netAgainstPlain();
        Due.end();
    }

    private static void parts() {
        FanNet x = Due.told(TWICE);
        Due.is("as it was told", Due.parts(x, 2, 7), "0 1 0 2 2 1 2");
        Due.is("as it is read", Due.parts(x, 0, 7), "0 1 0 2 2 1 2");
        Due.is("as plain comes to it", Due.parts(x, 1, 2), "1 2");
        Due.is("part(2, 7)", () -> x.part(2, 7), Due.NSE);
        Due.is("part(0, 7)", () -> x.part(0, 7), Due.NSE);
        Due.is("part(1, 2)", () -> x.part(1, 2), Due.NSE);
        x.step(0);
        Due.is("as it is read behind a step", Due.parts(x, 0, 5), "0 1 2 1 2");
        Due.is("as it was told stays", Due.parts(x, 2, 7), "0 1 0 2 2 1 2");
        Due.is("functions between", Due.parts(Due.told("\\x y z.x y z"), 2, 8), "1 1 1 0 0 4 3 2");
        Due.is("an argument's functions", Due.parts(Due.told("\\x.x (\\y.y x) x"), 2, 9), "1 0 0 2 1 0 2 3 2");
        Due.is("a number", Due.parts(Due.told("2"), 2, 7), "1 1 0 3 0 3 2");
        Due.is("a number 0", Due.parts(Due.told("0"), 2, 3), "1 1 2");
        // what is put in keeps its own functions
        Due.is("put in deeper", Due.parts(Due.told("\\a.(\\x y.x) a"), 1, 3), "1 1 3");
        Due.is("put in around others", Due.parts(Due.told("\\a b.(\\x.\\y.x (\\z.x b)) (a b)"), 1, 13),
            "1 1 1 0 0 4 3 1 0 0 5 4 4");
    }

    private static void sayings() {
        String[][] all = {
            {"\\x.x", "\\a.a"},
            {"\\x y.x y", "\\a.\\b.a b"},
            {"\\x y z.x y z", "\\a.\\b.\\c.a b c"},
            {"\\x y z.x (y z)", "\\a.\\b.\\c.a (b c)"},
            {"(\\x.x)(\\x.x)", "(\\a.a) (\\a.a)"},
            {"(\\x.x)(\\x.x)(\\x.x)", "(\\a.a) (\\a.a) (\\a.a)"},
            {"(\\x.x)((\\x.x)(\\x.x))", "(\\a.a) ((\\a.a) (\\a.a))"},
            {"\\x.x (\\y.y x) x", "\\a.a (\\b.b a) a"},
            {"\\x.(\\y.x) x (x x)", "\\a.(\\b.a) a (a a)"},
            {"\\x.(\\y.(\\z.z) y) (x (\\z.x))", "\\a.(\\b.(\\c.c) b) (a (\\b.a))"},
            {"2", "\\a.\\b.a (a b)"},
        };
        for (String[] one : all) {
            FanNet x = Due.told(one[0]);
            Due.is("say(2) of " + one[0], x.say(2), one[1].length());
            Due.is("told of " + one[0], Due.said(x, 2), one[1]);
            Due.is("read of " + one[0], Due.said(x, 0), one[1]);
        }
        Due.is("worked off plainly", Due.said(Due.told("add=\\m n s z.m s (n s z);add 2 1"), 1), "\\a.\\b.a (a (a b))");
    }

    /** Behind z comes a again. */
    private static void letters() {
        StringBuilder text = new StringBuilder("\\");
        StringBuilder due = new StringBuilder();
        for (int i = 0; i < 30; i++) {
            text.append(i > 0 ? " " : "").append("n").append((char) ('a' + i % 26)).append(i < 26 ? "x" : "y");
            due.append('\\').append((char) ('a' + i % 26)).append('.');
        }
        FanNet x = Due.told(text + ".nzx nay ncy ndy nax");
        Due.is("30 functions", Due.said(x, 2), due + "z a c d a");
        Due.is("30 functions, read", Due.said(x, 0), due + "z a c d a");
    }

    private static void latestSaying() {
        FanNet x = new FanNet();
        Due.is("nothing was told", x.said(0), -1);
        x.say(2);
        Due.is("said(3)", x.said(3), 'a');
        Due.is("said(4)", x.said(4), -1);
        Due.is("said(-1)", x.said(-1), -1);
        Due.is("said(least)", x.said(Integer.MIN_VALUE), -1);
        Due.is("said(greatest)", x.said(Integer.MAX_VALUE), -1);
        Due.tell(x, "(\\x.x x)(\\x.x x)");
        Due.is("another text", x.said(1), 'a');
        Due.is("say(1): there is no such term", x.say(1), -1);
        Due.is("the latest one stays", "" + x.said(0) + x.said(3) + x.said(4), "9297-1");
        Due.is("say(3)", () -> x.say(3), Due.IAE);
        Due.is("the latest one stays", "" + x.said(0) + x.said(3) + x.said(4), "9297-1");
        Due.is("say(2)", x.say(2), 17);
        Due.is("a longer one", "" + (char) x.said(0) + (char) x.said(16), "()");
        Due.tell(x, "\\x.x");
        x.say(0);
        Due.is("a shorter one", x.said(4), -1);
    }

    private static void sames() {
        FanNet x = Due.told(TWICE);
        Due.is("same(0, 2)", x.same(0, 2), true);
        Due.is("same(0, 1)", x.same(0, 1), false);
        Due.is("same(2, 1)", x.same(2, 1), false);
        Due.is("same(1, 1)", x.same(1, 1), true);
        x.run(0, 60);
        Due.is("same(0, 1)", x.same(0, 1), true);
        Due.is("same(1, 0)", x.same(1, 0), true);
        Due.is("same(0, 2)", x.same(0, 2), false);
    }

    private static void plains() {
        FanNet x = Due.told(TWICE);
        Due.is("rounds", "" + x.plain(0) + x.plain(1) + x.plain(2) + x.plain(3) + x.plain(200), "75222");
        Due.is("count(12), count(13)", x.count(12) + " " + x.count(13), "2 2");
        // the first application by parts, not an inner one: the argument goes as it is
        FanNet y = Due.told("(\\x y.y)((\\x.x x)(\\x.x x))");
        Due.is("outermost first", y.count(12) + " " + y.count(13) + " " + y.plain(1), "1 2 2");
        FanNet z = Due.told("(\\x.x x)((\\y.y)(\\z.z))");
        Due.is("copied unworked", "" + z.plain(1) + z.plain(2) + z.plain(3) + z.plain(4), "11852");
        x.run(0, 60);
        Due.is("as it was told, whatever the net is", x.plain(0), 7);
        Due.is("names far apart", Due.said(Due.told("(\\x y z.x y z)(\\a b.b a)"), 1), "\\a.\\b.b a");
        Due.is("no capture", Due.said(Due.told("\\y.(\\x y.x y) y"), 1), "\\a.\\b.a b");
        Due.is("no capture deeper", Due.said(Due.told("\\y.(\\x.\\z.x (\\w.x z)) (\\v.y v)"), 1), "\\a.\\b.a (\\c.a b)");
    }

    /** w w with w = \x.x x x is 13 parts, and every round brings 7 more. */
    private static void mostParts() {
        FanNet x = Due.told("(\\x.x x x)(\\x.x x x)");
        Due.is("plain(0)", x.plain(0), 13);
        Due.is("plain(1)", x.plain(1), 20);
        Due.is("plain(141)", x.plain(141), 1000);
        Due.is("plain(142)", x.plain(142), -1);
        Due.is("plain(200)", x.plain(200), -1);
        Due.is("count(12), count(13)", x.count(12) + " " + x.count(13), "-1 -1");
        Due.is("plain(2) behind that", x.plain(2), 27);
        FanNet y = Due.told("\\y.(\\x.x x x)(\\x.x x x)");
        Due.is("plain(140): 994", y.plain(140), 994);
        Due.is("plain(141): 1001 are too many", y.plain(141), -1);
    }

    /** 3 5 i i takes 189 rounds, every i ahead of it one more. */
    private static void mostRounds() {
        FanNet x = Due.told("i=\\x.x;i i i i i i i i i i i (3 5 i i)");
        Due.is("200 rounds", x.count(12) + " " + x.count(13), "200 2");
        Due.is("plain(199)", x.plain(199), 5);
        Due.is("plain(200)", x.plain(200), 2);
        FanNet y = Due.told("i=\\x.x;i i i i i i i i i i i i (3 5 i i)");
        Due.is("201 rounds", y.count(12) + " " + y.count(13), "-1 -1");
        Due.is("plain(200) of 201", y.plain(200), 5);
    }

    private static void redexes() {
        FanNet x = Due.told("(\\x.(\\y.y) x)((\\y.y)(\\z.z))");
        Due.is("redexes(2)", x.redexes(2), 3);
        Due.is("redexes(1)", x.redexes(1), 0);
        Due.is("redexes(0)", x.redexes(0), 3);
        x.step(0);
        Due.is("redexes(0) behind a step", x.redexes(0), 2);
        Due.is("none", Due.told("\\x.x (\\y.y) (\\y.y)").redexes(2), 0);
        Due.is("an application of an application", Due.told("(\\x.x)(\\x.x)(\\x.x)").redexes(2), 1);
    }

    private static void noPlainTerm() {
        FanNet x = Due.told("(\\x.x x)(\\x.x x)");
        Due.is("count(12), count(13)", x.count(12) + " " + x.count(13), "-1 -1");
        Due.is("plain(200)", x.plain(200), 9);
        Due.is("part(1, 0)", () -> x.part(1, 0), Due.NSE);
        Due.is("say(1)", x.say(1), -1);
        Due.is("same(1, 2)", () -> x.same(1, 2) ? 1 : 0, Due.NSE);
        Due.is("same(2, 1)", () -> x.same(2, 1) ? 1 : 0, Due.NSE);
        Due.is("same(1, 3)", () -> x.same(1, 3) ? 1 : 0, Due.IAE);
        Due.is("redexes(1)", () -> x.redexes(1), Due.NSE);
        Due.is("redexes(2)", x.redexes(2), 1);
        Due.tell(x, "\\x.x");
        Due.is("another program", x.count(12) + " " + x.count(13), "0 2");
    }

    private static void wrongNumbers() {
        FanNet x = Due.told(TWICE);
        for (int k : new int[] {-1, 3, Integer.MIN_VALUE, Integer.MAX_VALUE}) {
            Due.is("part's which", () -> x.part(k, 0), Due.NSE);
            Due.is("say", () -> x.say(k), Due.IAE);
            Due.is("same's first", () -> x.same(k, 0) ? 1 : 0, Due.IAE);
            Due.is("same's second", () -> x.same(0, k) ? 1 : 0, Due.IAE);
            Due.is("redexes", () -> x.redexes(k), Due.IAE);
        }
        for (int k : new int[] {-1, 201, Integer.MIN_VALUE, Integer.MAX_VALUE}) {
            Due.is("plain", () -> x.plain(k), Due.IAE);
            Due.is("part's i", () -> x.part(2, k), Due.NSE);
        }
    }

    /** Where both come to an end, by any way, they come to the same. */
    private static void netAgainstPlain() {
        int ends = 0;
        for (String text : Programs.WRITTEN) {
            ends += holdAgainstPlain(text);
        }
        for (int seed = 1; seed <= 400; seed++) {
            String text = new Programs(seed).sound();
            ends += holdAgainstPlain(text);
        }
        Due.is("many came to an end", ends > 1000, true);
    }

    private static int holdAgainstPlain(String text) {
        FanNet x = new FanNet();
        if (Due.tell(x, text) != 0 || x.count(12) < 0) {
            return 0;
        }
        int ends = 0;
        for (int way = 0; way < 3; way++) {
            x.again();
            int done = 60;
            for (int i = 0; i < 30 && done == 60; i++) {
                done = x.run(way, 60);
            }
            if (x.step(way) == 0 && x.count(10) >= 0) {
                ends++;
                Due.is("the end of " + text + " by " + way, x.same(0, 1), true);
                Due.is("count(11) of " + text + " by " + way, x.count(11), 1);
            }
        }
        return ends;
    }
}
