/**
 * Each sentence of the document on terms that names an edge, on both sides of it: PLAIN, what a TERM is TOLD by
 * ("==== 3." from PLAIN on), promises 12 to 17.
 */
public final class TermEdgesTest {
    private static final String OMEGA = "(\\x.x x)(\\x.x x)";
    private static final String ROW = "a b c d e f g h i j k l m n o p q r s t u v w x y z aa ab ac ad";

    public static void main(String[] args) {
        firstByParts();
        noRounds();
        mostRounds();
        moreRoundsThanThereAre();
        mostPartsAtTheEnd();
        mostPartsOnTheWay();
        mostPartsForEver();
        asItWasTold();
        behindZ();
        blanksAndParentheses();
        signsOfTheLongest();
        latestSay();
        noSuchPart();
        noSuchTerm();
        sameOrNot();
        applicationsOfAFunction();
        Due.end();
    }

    /** "Of all applications of a function the one that stands first by PARTS". */
    private static void firstByParts() {
        String[][] all = {
            // an outer one ahead of those in it
            {"(\\x.(\\y.y) x)((\\y.y y)(\\z.z))", "(\\a.a) ((\\a.a a) (\\a.a))"},
            // one in the function ahead of one in the argument
            {"\\f.f ((\\x.x) f) ((\\x.x x) f)", "\\a.a a ((\\b.b b) a)"},
            {"(\\x.x)(\\x.x)((\\y.y)(\\y.y))", "(\\a.a) ((\\a.a) (\\a.a))"},
            // an argument that isn't used goes unworked
            {"(\\x y.y)(" + OMEGA + ")", "\\a.a"},
            // within a function, too
            {"\\f.(\\x.f x) f", "\\a.a a"},
        };
        for (String[] one : all) {
            FanNet x = Due.told(one[0]);
            FanNet y = Due.told(one[1]);
            Due.is("parts behind a round of " + one[0], x.plain(1), y.count(14));
            Due.is("what both come to: " + one[0], Due.said(x, 1), Due.said(y, 1));
            Due.is("one round more of " + one[0], x.count(12), y.count(12) + 1);
            Due.is("and round by round: " + one[0], x.plain(2), y.plain(1));
        }
    }

    /** "ROUNDS till there is none": none at all, one, two. */
    private static void noRounds() {
        FanNet x = Due.told("\\x.x (\\y.y)");
        Due.is("none", x.count(12) + " " + x.count(13) + " " + x.plain(0) + " " + x.plain(1) + " " + x.plain(200), "0 5 5 5 5");
        FanNet y = Due.told("(\\x.x)(\\y.y)");
        Due.is("one", y.count(12) + " " + y.count(13) + " " + y.plain(0) + " " + y.plain(1) + " " + y.plain(2), "1 2 5 2 2");
        FanNet z = Due.told("(\\x.x)(\\x.x)(\\y.y)");
        Due.is("two", z.count(12) + " " + z.count(13) + " " + z.plain(0) + " " + z.plain(1) + " " + z.plain(2), "2 2 8 5 2");
    }

    private static String rounds(int more) {
        return "i=\\x.x;" + "i ".repeat(more) + "(3 5 i i)";
    }

    /** "None, if that takes more than 200": 3 5 i i takes 189, every i ahead of it one more. */
    private static void mostRounds() {
        for (int more = 0; more <= 13; more++) {
            FanNet x = Due.told(rounds(more));
            int rounds = 189 + more;
            boolean there = rounds <= 200;
            Due.is("rounds with " + more, x.count(12) + " " + x.count(13), there ? rounds + " 2" : "-1 -1");
            Due.is("say(1) with " + more, x.say(1), there ? 4 : -1);
            Due.is("part(1, 0) with " + more, () -> x.part(1, 0), there ? "1" : Due.NSE);
            Due.is("redexes(1) with " + more, () -> x.redexes(1), there ? "0" : Due.NSE);
            Due.is("same(1, 1) with " + more, () -> x.same(1, 1) ? 1 : 0, there ? "1" : Due.NSE);
            // plain() itself has an answer: it is asked for what there is behind so many
            Due.is("plain(200) with " + more, x.plain(200), rounds <= 200 ? 2 : rounds == 201 ? 5 : 8);
            Due.is("plain(199) with " + more, x.plain(199), rounds <= 199 ? 2 : rounds == 200 ? 5 : rounds == 201 ? 8 : 11);
        }
    }

    /** "(0 to 200; or behind as many as there are)"; "another number". */
    private static void moreRoundsThanThereAre() {
        FanNet x = Due.told("(\\x.x x)(\\y.y)");
        Due.is("2 of 2, 3 of 2, 200 of 2", x.plain(2) + " " + x.plain(3) + " " + x.plain(200), "2 2 2");
        Due.is("0", x.plain(0), 7);
        Due.is("201", () -> x.plain(201), Due.IAE);
        Due.is("-1", () -> x.plain(-1), Due.IAE);
        FanNet y = Due.told(OMEGA);
        Due.is("200 without end", y.plain(200) + " " + y.count(12) + " " + y.count(13), "9 -1 -1");
        Due.is("what plain(n) comes to is no term of its own", y.say(1), -1);
        x.plain(1);
        Due.is("nor does it change the one there is", Due.said(x, 1) + " " + x.count(12), "\\a.a 2");
    }

    /** 33 parts. */
    private static final String BIG = "(\\x y.x" + " x".repeat(15) + ")";

    /** "Or there were more than 1000 PARTS": a term that comes to 1000, and one to 1001. */
    private static void mostPartsAtTheEnd() {
        for (int around = 11; around <= 15; around++) {
            // the functions around, v, and 29 times an application of 34 parts
            FanNet x = Due.told("\\v " + ROW.substring(0, 2 * around - 1) + ".(\\x.v" + " x".repeat(29) + ")" + BIG);
            int parts = 1 + around + 1 + 29 * 34;
            boolean there = parts <= 1000;
            Due.is("plain(1) to " + parts, x.plain(1), there ? parts : -1);
            Due.is("plain(200) to " + parts, x.plain(200), there ? parts : -1);
            Due.is("plain(0) to " + parts, x.plain(0), x.count(14));
            Due.is("count(12), count(13) to " + parts, x.count(12) + " " + x.count(13), there ? "1 " + parts : "-1 -1");
            Due.is("say(1) to " + parts, x.say(1) > 0, there);
            Due.is("part 999 to " + parts, () -> x.part(1, 999), parts == 1000 ? "3" : Due.NSE);
            Due.is("part 1000 to " + parts, () -> x.part(1, 1000), Due.NSE);
        }
    }

    /** "NONE: more than 1000 on the way", though fewer are left behind it. */
    private static void mostPartsOnTheWay() {
        for (int unused = 11; unused <= 14; unused++) {
            FanNet x = Due.told("(\\x.(\\" + "w ".repeat(unused + 1) + ".w)(x" + " x".repeat(28) + "))" + BIG);
            int most = 1 + 1 + unused + 1 + 28 + 29 * 33;
            boolean there = most <= 1000;
            Due.is("plain(1) over " + most, x.plain(1), there ? most : -1);
            Due.is("plain(2) over " + most, x.plain(2), there ? unused + 1 : -1);
            Due.is("count(12), count(13) over " + most, x.count(12) + " " + x.count(13), there ? "2 " + (unused + 1) : "-1 -1");
        }
    }

    /** 13 parts, and 7 more every round; with functions around 1 more each. */
    private static void mostPartsForEver() {
        for (int around = 0; around <= 7; around++) {
            String text = "(\\x.x x x)(\\x.x x x)";
            FanNet x = Due.told(around == 0 ? text : "\\" + ROW.substring(0, 2 * around - 1) + "." + text);
            for (int rounds = 139; rounds <= 143; rounds++) {
                int parts = around + 13 + 7 * rounds;
                Due.is(parts + " parts", x.plain(rounds), parts <= 1000 ? parts : -1);
            }
            Due.is("no such term with " + around, x.count(12) + " " + x.count(13) + " " + x.say(1), "-1 -1 -1");
        }
    }

    /** "The last TERM as it was told, worked off": whatever has been done to the net. */
    private static void asItWasTold() {
        FanNet x = Due.told("(\\x.x x)(\\y.y)");
        x.run(1, 60);
        Due.is("plain(0), plain(1)", x.plain(0) + " " + x.plain(1), "7 5");
        Due.is("count(12), count(13), count(14)", x.count(12) + " " + x.count(13) + " " + x.count(14), "2 2 7");
        Due.tell(x, "?");
        Due.is("behind a fault", x.plain(1) + " " + x.count(12), "5 2");
        Due.tell(x, "0");
        Due.is("behind another text", x.plain(1) + " " + x.count(12), "3 0");
    }

    /** "Its letter is a, if no function lies around it, b, if one does, .. (behind z a again)". */
    private static void behindZ() {
        for (int n : new int[] {1, 2, 25, 26, 27, 28, 30}) {
            String names = ROW.substring(0, n <= 26 ? 2 * n - 1 : 51 + 3 * (n - 26));
            String[] each = names.split(" ");
            FanNet x = Due.told("\\" + names + "." + each[n - 1]);
            String due = functions(n) + (char) ('a' + (n - 1) % 26);
            Due.is(n + " functions", Due.said(x, 2) + " " + Due.said(x, 0) + " " + Due.said(x, 1), due + " " + due + " " + due);
        }
        // 60 functions by way of a name: a third a
        FanNet y = Due.told("nn=\\" + ROW + ".a b y z aa ad;\\" + ROW + ".nn");
        Due.is("60 functions", Due.said(y, 2), functions(60) + "e f c d e h");
        FanNet z = Due.told("nn=\\" + ROW + ".w x;\\" + ROW + ".nn");
        Due.is("z and a again", Due.said(z, 2), functions(60) + "a b");
        FanNet v = Due.told("nn=\\" + ROW + ".v w;\\" + ROW + ".nn");
        Due.is("the last z", Due.said(v, 2), functions(60) + "z a");
        // the letter goes by how many are around, not by how many there are
        Due.is("side by side", Due.said(Due.told("\\x.x (\\y.y (\\z.z)) (\\w.w)"), 2), "\\a.a (\\b.b (\\c.c)) (\\b.b)");
    }

    private static String functions(int n) {
        StringBuilder out = new StringBuilder();
        for (int i = 0; i < n; i++) {
            out.append('\\').append((char) ('a' + i % 26)).append('.');
        }
        return out.toString();
    }

    /** "Its function (in parentheses, if it is a function of a NAME), a blank, its argument (.. if it is no VARIABLE)". */
    private static void blanksAndParentheses() {
        String[][] all = {
            {"\\x y.x y", "\\a.\\b.a b"},
            {"\\x y.x y x", "\\a.\\b.a b a"},
            {"\\x y.x (y x)", "\\a.\\b.a (b a)"},
            {"\\x y.x (\\z.z)", "\\a.\\b.a (\\c.c)"},
            {"\\x y.(\\z.z) x", "\\a.\\b.(\\c.c) a"},
            {"\\x y.(\\z.z) (\\z.z) x", "\\a.\\b.(\\c.c) (\\c.c) a"},
            {"\\x y.(\\z.z) ((\\z.z) x)", "\\a.\\b.(\\c.c) ((\\c.c) a)"},
            {"\\x.(\\y.x y) (x x) x (x (x x))", "\\a.(\\b.a b) (a a) a (a (a a))"},
            {"(\\x.x (x (\\y.x)))(\\y.y)", "(\\a.a (a (\\b.a))) (\\a.a)"},
        };
        for (String[] one : all) {
            FanNet x = Due.told(one[0]);
            Due.is("how many of " + one[0], x.say(2) + " " + x.say(0), one[1].length() + " " + one[1].length());
            Due.is("signs of " + one[0], Due.said(x, 2), one[1]);
            Due.is("read of " + one[0], Due.said(x, 0), one[1]);
            // what is told is a text again, and means the same
            Due.is("told again: " + one[0], Due.said(Due.told(one[1]), 2), one[1]);
        }
    }

    /** A term of 1000 parts is told to its last sign. */
    private static void signsOfTheLongest() {
        String names = ROW.substring(0, 23);
        FanNet x = Due.told("\\v " + names + ".(\\x.v" + " x".repeat(29) + ")" + BIG);
        String each = " (\\n.\\o.n" + " n".repeat(15) + ")";
        String due = functions(13) + "a" + each.repeat(29);
        Due.is("parts", x.count(13), 1000);
        Due.is("signs", x.say(1), due.length());
        StringBuilder got = new StringBuilder();
        for (int i = 0; i < due.length(); i++) {
            got.append((char) x.said(i));
        }
        Due.is("the signs", got.toString(), due);
        Due.is("none behind", x.said(due.length()), -1);
        // parentheses within parentheses
        FanNet y = Due.told("n=\\s z.s (s (s (s (s (s (s z))))));\\s.n (n s)");
        Due.is("48 within each other", Due.said(y, 1), "\\a.\\b." + "a (".repeat(48) + "a b" + ")".repeat(48));
    }

    /** "The i-th byte of what was TOLD by the latest say() that was not NONE; NONE: there is none." */
    private static void latestSay() {
        FanNet x = new FanNet();
        Due.is("none at first", x.said(0) + " " + x.said(-1), "-1 -1");
        x.say(2);
        Due.is("0, 3, 4, -1", x.said(0) + " " + x.said(3) + " " + x.said(4) + " " + x.said(-1), "92 97 -1 -1");
        Due.is("far off", x.said(Integer.MAX_VALUE) + " " + x.said(Integer.MIN_VALUE), "-1 -1");
        Due.tell(x, OMEGA);
        Due.is("NONE", x.say(1), -1);
        Due.is("refused", () -> x.say(3), Due.IAE);
        Due.is("they change nothing", x.said(0) + " " + x.said(3) + " " + x.said(4), "92 97 -1");
        x.run(0, 5);
        x.again();
        x.plain(3);
        Due.is("nor does a step, again(), plain()", x.said(0) + " " + x.said(3) + " " + x.said(4), "92 97 -1");
        Due.is("another one", x.say(0) + " " + x.said(0) + " " + x.said(16) + " " + x.said(17), "17 40 41 -1");
        Due.tell(x, "\\x.x");
        Due.is("a shorter one", x.say(0) + " " + x.said(3) + " " + x.said(4), "4 97 -1");
    }

    /** "NoSuchElementException: there is no such PART, TERM." */
    private static void noSuchPart() {
        FanNet x = Due.told("(\\x.x x)(\\y.y)");
        int[] sizes = {7, 2, 7};
        for (int which = 0; which < 3; which++) {
            int w = which;
            Due.is("the first of " + w, x.part(w, 0), w == 1 ? 1 : 0);
            Due.is("the last of " + w, x.part(w, sizes[w] - 1), 2);
            for (int i : new int[] {sizes[w], -1, 1000, Integer.MAX_VALUE, Integer.MIN_VALUE}) {
                Due.is("part(" + w + ", " + i + ")", () -> x.part(w, i), Due.NSE);
            }
        }
        for (int which : new int[] {-1, 3, Integer.MAX_VALUE, Integer.MIN_VALUE}) {
            Due.is("part(" + which + ", 0)", () -> x.part(which, 0), Due.NSE);
        }
    }

    /** "IllegalArgumentException: another which. NoSuchElementException (behind that): there is no such TERM." */
    private static void noSuchTerm() {
        FanNet x = Due.told(OMEGA);
        for (int odd : new int[] {-1, 3, Integer.MAX_VALUE, Integer.MIN_VALUE}) {
            Due.is("say(" + odd + ")", () -> x.say(odd), Due.IAE);
            Due.is("redexes(" + odd + ")", () -> x.redexes(odd), Due.IAE);
            for (int which = 0; which < 3; which++) {
                int w = which;
                // 1 is no such term here: the other which is refused ahead of that
                Due.is("same(" + w + ", " + odd + ")", () -> x.same(w, odd) ? 1 : 0, Due.IAE);
                Due.is("same(" + odd + ", " + w + ")", () -> x.same(odd, w) ? 1 : 0, Due.IAE);
            }
            Due.is("same(" + odd + ", " + odd + ")", () -> x.same(odd, odd) ? 1 : 0, Due.IAE);
        }
        Due.is("same(1, 0)", () -> x.same(1, 0) ? 1 : 0, Due.NSE);
        Due.is("same(0, 1)", () -> x.same(0, 1) ? 1 : 0, Due.NSE);
        Due.is("same(1, 1)", () -> x.same(1, 1) ? 1 : 0, Due.NSE);
        Due.is("same(0, 2)", () -> x.same(0, 2) ? 1 : 0, "1");
        Due.is("redexes(1)", () -> x.redexes(1), Due.NSE);
        Due.is("redexes(0), redexes(2)", x.redexes(0) + " " + x.redexes(2), "1 1");
        Due.is("say(1)", x.say(1), -1);
        Due.is("part(1, 0)", () -> x.part(1, 0), Due.NSE);
    }

    /** "Whether two TERMS are the same": by their parts, not by their names. */
    private static void sameOrNot() {
        Due.is("a part less", Due.told("(\\x.x)(\\x y.x)").same(1, 2), false);
        Due.is("nothing to do", Due.told("\\x y.x").same(1, 2), true);
        // as many parts, but other ones
        FanNet x = Due.told("\\v.(\\x.v x x)(\\y.y y)");
        Due.is("as many", x.count(13) + " " + x.count(14), "12 12");
        Due.is("but not the same", x.same(1, 2) + " " + x.same(2, 1) + " " + x.same(0, 1) + " " + x.same(0, 2), "false false false true");
        x.run(0, 60);
        Due.is("worked off", x.same(1, 2) + " " + x.same(0, 1) + " " + x.same(0, 2), "false true false");
        FanNet y = Due.told("\\a b.(\\c.c) a b");
        y.run(0, 60);
        Due.is("the net has come to it", y.same(0, 1) + " " + y.same(1, 0) + " " + y.same(0, 2), "true true false");
        // a round that leaves the term as it was: it is the same, without being worked off
        FanNet z = Due.told(OMEGA);
        Due.is("of itself", z.same(2, 2) + " " + z.same(0, 0), "true true");
    }

    /** "Applications of a function in a TERM." */
    private static void applicationsOfAFunction() {
        String[] texts = {"\\x.x", "\\x.x x", "\\x.x (\\y.y)", "(\\x.x)(\\y.y)", "(\\x.x)(\\y.y)(\\z.z)", "(\\x.(\\y.y) x)((\\z.z)(\\w.w))",
            "\\x.(\\y.y)(x (\\z.z))", "9 9 9 9 9", "\\x.(\\y.(\\z.(\\w.w) z) y) x"};
        int[] due = {0, 0, 0, 1, 1, 3, 1, 1, 3};
        for (int i = 0; i < texts.length; i++) {
            FanNet x = Due.told(texts[i]);
            Due.is("redexes of " + texts[i], x.redexes(2) + " " + x.redexes(0), due[i] + " " + due[i]);
        }
    }
}
