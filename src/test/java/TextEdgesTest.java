/**
 * Each sentence of the document on tapes and texts that names an edge, on both sides of it (promises 1 to 5, "Terms").
 * What is said of a method is the sentence that it holds.
 */
public final class TextEdgesTest {
    private static final String ROW = "a b c d e f g h i j k l m n o p q r s t u v w x y z aa ab ac ad";

    public static void main(String[] args) {
        newObject();
        bytesOfANumber();
        mostBytesOfTheTape();
        notSoMany();
        emptyThen();
        faultOfTheLatest();
        allStays();
        longestText();
        everyByte();
        longestRows();
        whatCanStand();
        endsTooSoon();
        letters();
        figures();
        equalsSigns();
        parentheses();
        namesAround();
        standsForNothing();
        hidden();
        toldAlready();
        firstAlongTheText();
        leastOfOneToken();
        mostParts();
        mostNodes();
        numbers();
        oneTextBehindAnother();
        Due.end();
    }

    private static void sound(String text, String due) {
        FanNet x = new FanNet();
        Due.is("tell of '" + text + "'", Due.tell(x, text), 0);
        Due.is("fault() of '" + text + "'", x.fault(), -1);
        Due.is("the term of '" + text + "'", Due.said(x, 2), due);
    }

    /** The fault of a text that is told to an object with another program, which stays. */
    private static void fault(String text, int kind, int place) {
        FanNet x = Due.told("\\k l.k");
        Due.is("tell of '" + text + "'", Due.tell(x, text), kind);
        Due.is("fault() of '" + text + "'", x.fault(), place);
        Due.is("what stays behind '" + text + "'", Due.said(x, 2) + " " + Due.said(x, 0), "\\a.\\b.a \\a.\\b.a");
    }

    /** "A new object: the program \x.x", an empty tape, no fault, nothing told. */
    private static void newObject() {
        FanNet x = new FanNet();
        Due.is("parts", Due.parts(x, 2, 2), "1 2");
        Due.is("part(2, 2)", () -> x.part(2, 2), Due.NSE);
        Due.is("net", Due.net(x), Due.net(Due.told("\\x.x")));
        Due.is("counts", Due.counts(x), Due.counts(Due.told("\\x.x")));
        Due.is("tape", x.count(15), 0);
        Due.is("fault()", x.fault(), -1);
        Due.is("said(0)", x.said(0), -1);
        Due.is("tell(1)", () -> x.tell(1), Due.IAE);
        Due.is("again()", x.again(), 3);
    }

    /** "Twenty bytes .., of each number the highest first": a number below 0 has bytes as any other one. */
    private static void bytesOfANumber() {
        FanNet x = new FanNet();
        Due.is("feed", x.feed(0x5C612062, 0x20632064, 0x20652066, 0x20672068, 0x2E686766), 20);
        Due.is("tell(18)", x.tell(18), 0);
        Due.is("the bytes one behind another", Due.said(x, 2), "\\a.\\b.\\c.\\d.\\e.\\f.\\g.\\h.h");
        for (int i = 0; i < 4; i++) {
            x.feed(0x31202020, 0x20202020, 0x20202020, 0x20202020, 0x20202020 & ~(255 << 24 - 8 * i) | 0x80 << 24 - 8 * i);
            Due.is("a byte 128 as the last number's byte " + i, x.tell(20), 1);
            Due.is("its place", x.fault(), 16 + i);
            x.feed(0x20202020 & ~(255 << 24 - 8 * i) | 0x30 << 24 - 8 * i, 0x20202020, 0x20202020, 0x20202020, -1);
            Due.is("a byte 48 as the first number's byte " + i, x.tell(16), 0);
        }
        x.feed(-1, 0, 0, 0, 0);
        Due.is("a byte 255", x.tell(1) + " " + x.fault(), "1 0");
        x.feed(Integer.MIN_VALUE, 0, 0, 0, 0);
        Due.is("a byte 128", x.tell(1) + " " + x.fault(), "1 0");
        x.feed(0, 0, 0, 0, 0);
        Due.is("a byte 0", x.tell(1) + " " + x.fault(), "1 0");
    }

    /** "NONE, and none come, if it would have more than 700." */
    private static void mostBytesOfTheTape() {
        FanNet x = new FanNet();
        for (int i = 1; i <= 35; i++) {
            Due.is("feed " + i, x.feed(0x20202020, 0x20202020, 0x20202020, 0x20202020, 0x20202020), 20 * i);
            Due.is("bytes behind feed " + i, x.count(15), 20 * i);
        }
        Due.is("feed 36", x.feed(0x31313131, 0x31313131, 0x31313131, 0x31313131, 0x31313131), -1);
        Due.is("bytes behind it", x.count(15), 700);
        Due.is("feed 37", x.feed(0, 0, 0, 0, 0), -1);
        Due.is("none came: blanks alone", x.tell(700) + " " + x.fault(), "1 700");
        Due.is("feed on the empty tape", x.feed(0, 0, 0, 0, 0), 20);
        FanNet y = new FanNet();
        for (int i = 1; i <= 34; i++) {
            y.feed(0, 0, 0, 0, 0);
        }
        Due.is("680 and 20", y.feed(0, 0, 0, 0, 0), 700);
    }

    /** "IllegalArgumentException: the tape has not so many, n below 0 (nothing changes)." */
    private static void notSoMany() {
        FanNet x = Due.told("(\\x.x x)(\\y.y)");
        x.run(0, 2);
        x.say(2);
        Due.tell(x, "(\\x.x");
        Due.feed(x, "(\\x.x x x)(\\y.y y y)z");
        Due.is("bytes", x.count(15), 40);
        String before = Due.net(x) + Due.counts(x) + x.fault();
        for (int n : new int[] {41, -1, 42, 700, 701, Integer.MAX_VALUE, Integer.MIN_VALUE}) {
            Due.is("tell(" + n + ")", () -> x.tell(n), Due.IAE);
            Due.is("what stays behind tell(" + n + ")", Due.net(x) + Due.counts(x) + x.fault(), before);
            Due.is("what was said stays behind tell(" + n + ")", x.said(0), '(');
        }
        Due.is("as many as there are", x.tell(40) + " " + x.fault(), "3 20");
        Due.is("one more than none", () -> x.tell(1), Due.IAE);
        Due.is("the place stays", x.fault(), 20);
        Due.is("none of none", x.tell(0) + " " + x.fault(), "1 0");
    }

    /** "The tape's first n bytes (it is empty then) are a TEXT": with a fault and without. */
    private static void emptyThen() {
        FanNet x = new FanNet();
        Due.feed(x, "\\x.\\y.y) and so on, which is not told");
        Due.is("the first 7 alone", x.tell(7), 0);
        Due.is("the term", Due.said(x, 2), "\\a.\\b.b");
        Due.is("bytes behind a sound text", x.count(15), 0);
        Due.feed(x, "\\x.\\y.y)");
        Due.is("the first 8", x.tell(8) + " " + x.fault(), "1 7");
        Due.is("bytes behind a fault", x.count(15), 0);
        Due.feed(x, "9 9 9 9 9 9");
        Due.is("too big", x.tell(11), 5);
        Due.is("bytes behind it", x.count(15), 0);
        Due.feed(x, "1");
        Due.is("none of 20", x.tell(0), 1);
        Due.is("bytes behind it", x.count(15), 0);
    }

    /** "The place of the latest tell()'s FAULT; NONE without." */
    private static void faultOfTheLatest() {
        FanNet x = new FanNet();
        Due.tell(x, "1 2 ?");
        Due.is("a fault", x.fault(), 4);
        x.again();
        x.step(0);
        x.feed(1, 2, 3, 4, 5);
        Due.is("it stays till the next tell()", x.fault(), 4);
        x.tell(0);
        Due.is("another fault", x.fault(), 0);
        Due.tell(x, "9 9 9 9 9 9 ");
        Due.is("too big", x.fault(), 12);
        Due.tell(x, "1");
        Due.is("without", x.fault(), -1);
    }

    /** "0, or the FAULT (all stays)": net, term, counts, what was said, what plain comes to, trials. */
    private static void allStays() {
        String full = nested(24, 11, " aa", " b b b");
        for (String text : new String[] {"", "?", "(", "12", "x", "a=1;a=1;a", "9 9 9 9 9 9", full}) {
            FanNet x = Due.told("(\\x.x x)(\\y.y)");
            x.run(1, 4);
            x.say(1);
            String before = Due.net(x) + Due.counts(x) + Due.actives(x) + x.wanted(2) + x.trial(1, 0) + x.plain(1);
            Due.is("a fault of " + text, Due.tell(x, text) > 0, true);
            Due.is("all stays behind " + text,
                Due.net(x) + Due.counts(x) + Due.actives(x) + x.wanted(2) + x.trial(1, 0) + x.plain(1), before);
            Due.is("what was said", x.said(3) + " " + x.said(4), "97 -1");
            Due.is("again() lays what was told", x.again() + " " + x.count(0) + " " + x.count(3), before(4) + " 10 0");
        }
        FanNet y = Due.told("(\\x.x x)(\\y.y)");
        y.run(0, 60);
        Due.tell(y, "(\\x.x)(\\y.y y)");
        Due.is("counts begin anew", Due.counts(y), Due.counts(Due.told("(\\x.x)(\\y.y y)")));
        Due.is("the net is laid", Due.net(y), Due.net(Due.told("(\\x.x)(\\y.y y)")));
    }

    private static int before(int steps) {
        FanNet x = Due.told("(\\x.x x)(\\y.y)");
        x.run(1, steps);
        return x.count(0);
    }

    /** "A TEXT of at most 700 bytes": one of 700 is taken to its last byte. */
    private static void longestText() {
        sound(" ".repeat(696) + "\\x.x", "\\a.a");
        sound("\\x.x" + "\n".repeat(696), "\\a.a");
        sound("\\x.(\\yy.yy)" + " ".repeat(688) + "x", "\\a.(\\b.b) a");
        fault(" ".repeat(695) + "\\x.x)", 1, 699);
        fault(" ".repeat(697) + "\\x.", 1, 700);
        fault("\\x.x" + " ".repeat(695) + "y", 3, 699);
        fault("1" + " 1".repeat(349) + " ", 5, 700);
        // every byte a token: so many tokens are taken, too
        String signs = "\\x." + "(x)".repeat(232);
        fault(signs + "x", 5, 700);
        fault(signs + "(", 1, 700);
        fault(signs + ")", 1, 699);
    }

    /** "WORDS (a .. z ..), NUMBERS (figures ..), the signs \ . = ; ( ) and blanks (32, 10)"; 1: "or is none". */
    private static void everyByte() {
        for (int b = 0; b < 256; b++) {
            FanNet x = new FanNet();
            String text = "1" + (char) b + "1";
            int kind = Due.tell(x, text);
            String due;
            if (b == 32 || b == 10) {
                due = "0 -1";
            } else if (b >= 'a' && b <= 'z') {
                due = "3 1";
            } else if (b >= '0' && b <= '9') {
                due = "2 0";
            } else if (b == '(') {
                due = "1 3";
            } else {
                due = "1 1";
            }
            Due.is("byte " + b + " between ones", kind + " " + x.fault(), due);
            boolean taken = b >= 'a' && b <= 'z' || b >= '0' && b <= '9' || b == '(' || b == '\\' || b == 32 || b == 10;
            kind = Due.tell(x, (char) b + "");
            Due.is("byte " + b + " at first is a fault there or can stand", kind == 1 && x.fault() == 0, !taken);
        }
        for (int b : new int[] {'\\', '.', '=', ';', '(', ')'}) {
            FanNet x = new FanNet();
            Due.is("the sign " + (char) b, Due.tell(x, "a=\\x.(x);(a)"), 0);
            Due.is("the sign " + (char) b + " is needed", Due.tell(x, "a=\\x.(x);(a)".replace((char) b, ' ')) != 0, true);
        }
        fault("`", 1, 0);
        fault("{", 1, 0);
        fault("/", 1, 0);
        fault(":", 1, 0);
        sound("\\a z.a z", "\\a.\\b.a b");
        fault("\\a.`", 1, 3);
        fault("\\a.{", 1, 3);
    }

    /** "The longest row": two words or numbers need something between them, a word and a number don't. */
    private static void longestRows() {
        sound("\\x xx.x x", "\\a.\\b.a a");
        sound("\\x xx.xx", "\\a.\\b.b");
        sound("\\xx x.x x", "\\a.\\b.b b");
        sound("\\x.x1x", "\\a.a (\\b.\\c.b c) a");
        sound("1 1", "(\\a.\\b.a b) (\\a.\\b.a b)");
        sound("1\n1", "(\\a.\\b.a b) (\\a.\\b.a b)");
        fault("11", 2, 0);
        sound("\\x.x(x)x", "\\a.a a a");
        fault("\\x.xx", 3, 3);
        fault("\\x1.x", 1, 2);
        sound("a=1;b=0;a b", "(\\a.\\b.a b) (\\a.\\b.b)");
        fault("a=1;b=0;ab", 3, 8);
        // blanks count for nothing, ahead of everything and behind it
        sound("\n a \n = \n \\ \n x \n . \n ( \n x \n ) \n ; \n a \n 1 \n ", "(\\a.a) (\\a.\\b.a b)");
    }

    /** What can stand behind each beginning; every other token is a fault 1, at its first byte. */
    private static void whatCanStand() {
        String begins = "w1\\(";
        String[][] all = {
            {"", begins}, {"a=", begins}, {"a=1;", begins}, {"\\x.", begins}, {"(", begins}, {"1 (", begins}, {"((", begins},
            {"a=\\x.", begins}, {"a=(", begins}, {"\\x.x(", begins}, {"a=1;b=", begins}, {"a=1;b=1;", begins},
            {"\\", "w"}, {"(\\", "w"}, {"a=\\", "w"}, {"\\x.\\", "w"}, {"1(\\", "w"},
            {"\\x", "w."}, {"\\x y", "w."}, {"\\x x", "w."}, {"(\\x", "w."}, {"a=\\x", "w."}, {"\\x.\\y", "w."},
            {"1", "w1($"}, {"(1)", "w1($"}, {"\\x.x", "w1($"}, {"\\x.1", "w1($"}, {"1 1", "w1($"}, {"a=1;1", "w1($"},
            {"a=1;(a)", "w1($"}, {"a=1;1 a", "w1($"}, {"\\x.(x)", "w1($"}, {"(\\x.x)1", "w1($"}, {"((1))", "w1($"},
            {"(1", "w1()"}, {"((1)", "w1()"}, {"(\\x.x", "w1()"}, {"a=(1", "w1()"}, {"1(1 1", "w1()"}, {"(\\x.x(x)", "w1()"},
            {"a=1", "w1(;"}, {"a=\\x.x", "w1(;"}, {"a=(1)", "w1(;"}, {"a=1;b=a", "w1(;"}, {"a=1 1", "w1(;"},
        };
        for (String[] one : all) {
            for (char sort : "w1\\.=;()$?".toCharArray()) {
                String text = one[0] + " " + (sort == 'w' ? "w" : sort == '$' ? "" : "" + sort);
                FanNet x = new FanNet();
                int kind = Due.tell(x, text);
                int place = one[0].length() + 1;
                // what can stand may still lack something behind it: that is a fault 1 at another place
                boolean refused = kind == 1 && x.fault() == place;
                Due.is("'" + text + "' is refused at its last token", refused, one[1].indexOf(sort) < 0);
                Due.is("'" + text + "' has no other fault ahead of it", kind == 0 || x.fault() >= place, true);
            }
        }
        sound("(\\x.x)(\\y.y)(1)", "(\\a.a) (\\a.a) (\\a.\\b.a b)");
        sound("a=\\x.x;b=a a;c=(b);c", "(\\a.a) (\\a.a)");
        // a program may have no name at all, and a name may go unused
        sound("a=1;0", "\\a.\\b.b");
    }

    /** "The text's length where it ends too soon": blanks at its end count. */
    private static void endsTooSoon() {
        String[] all = {"", "\\", "\\x", "\\x y", "\\x.", "(", "(1", "((1)", "(\\x.x", "a=", "a=1", "a=1;", "a=\\x.x;b=", "1 (",
            "\\x.x (", "a=(1", "a=(1)", "\\x.\\"};
        for (String text : all) {
            fault(text, 1, text.length());
            fault(text + " ", 1, text.length() + 1);
            fault(text + "\n \n", 1, text.length() + 3);
            fault("  " + text, 1, text.length() + 2);
        }
        // a name of which '=' is the last token is one ahead of '='; of which nothing comes, stands for nothing
        fault("a =", 1, 3);
        fault("a ", 3, 0);
    }

    /** "A NAME is a WORD of 1 to 8 letters"; 2: "a WORD of 9 letters or more", wherever it stands. */
    private static void letters() {
        sound("\\a.a", "\\a.a");
        sound("\\abcdefgh.abcdefgh", "\\a.a");
        fault("\\abcdefghi.abcdefghi", 2, 1);
        fault("\\x abcdefghi.x", 2, 3);
        fault("\\abcdefgh.abcdefghi", 2, 10);
        sound("abcdefgh=1;abcdefgh", "\\a.\\b.a b");
        fault("abcdefghi=1;abcdefghi", 2, 0);
        fault("abcdefgh=1;abcdefghi", 2, 11);
        fault("zzzzzzzz", 3, 0);
        fault("zzzzzzzzz", 2, 0);
        fault("1 (z" + "z".repeat(600), 2, 3);
        // names are told apart by all of their letters
        sound("\\abcdefgh abcdefgi.abcdefgh", "\\a.\\b.a");
        sound("\\abcdefgh abcdefg.abcdefgh", "\\a.\\b.a");
        sound("\\abcdefgh bbcdefgh.abcdefgh", "\\a.\\b.a");
    }

    /** "A NUMBER n (0 to 9)"; 2: "a NUMBER of two figures or more". */
    private static void figures() {
        for (int n = 0; n < 10; n++) {
            StringBuilder due = new StringBuilder("\\a.\\b.");
            for (int i = 0; i < n - 1; i++) {
                due.append("a (");
            }
            due.append(n == 0 ? "b" : "a b").append(")".repeat(Math.max(0, n - 1)));
            sound("" + n, due.toString());
            Due.is("parts of " + n, Due.told("" + n).count(14), 3 + 2 * n);
            fault("" + n + n, 2, 0);
        }
        fault("10", 2, 0);
        fault("01", 2, 0);
        fault("00", 2, 0);
        fault("1 (2 34)", 2, 5);
        fault("123456789012345678901234567890", 2, 0);
        sound("\\x.1 2 x", "\\a.(\\b.\\c.b c) (\\b.\\c.b (b c)) a");
    }

    private static String told(int names) {
        StringBuilder out = new StringBuilder();
        for (int i = 0; i < names; i++) {
            out.append((char) ('a' + i)).append("=1;");
        }
        return out.toString();
    }

    /** 2: "a 13th '=' (at the NAME ahead of it)". */
    private static void equalsSigns() {
        sound(told(11) + "k", "\\a.\\b.a b");
        sound(told(12) + "l", "\\a.\\b.a b");
        sound(told(12) + "a", "\\a.\\b.a b");
        fault(told(13) + "m", 2, 48);
        fault(told(12) + "m=", 2, 48);
        fault(told(12) + " m\n =1;m", 2, 49);
        // without '=' it is none, and stands for nothing
        fault(told(12) + "m", 3, 48);
        fault(told(12) + "m 1", 3, 48);
        // one that can't stand there is none of the 13
        fault(told(12) + "l 1=", 1, 51);
        fault(told(12) + "=", 1, 48);
        fault(told(11) + "l=1;", 1, 48);
    }

    private static String around(int n, String inner) {
        return "(".repeat(n) + inner + ")".repeat(n);
    }

    /** 2: "a '(' within 12 others". */
    private static void parentheses() {
        sound(around(11, "1"), "\\a.\\b.a b");
        sound(around(12, "1"), "\\a.\\b.a b");
        fault(around(13, "1"), 2, 12);
        fault("(".repeat(20), 2, 12);
        fault("(".repeat(12), 1, 12);
        // what is closed is not around any longer
        sound(around(11, "(1)(1)(1)"), "(\\a.\\b.a b) (\\a.\\b.a b) (\\a.\\b.a b)");
        fault(around(11, "(1)((1))"), 2, 15);
        sound("a=" + around(12, "1") + ";" + around(12, "a"), "\\a.\\b.a b");
        // 12 around by way of arguments and functions
        sound("\\x." + "x(\\y.".repeat(12) + "x" + ")".repeat(12), deep());
        fault("\\x." + "x(\\y.".repeat(12) + "(x)" + ")".repeat(12), 2, 63);
        sound("(1)".repeat(13) + "1", "(\\a.\\b.a b)" + " (\\a.\\b.a b)".repeat(13));
    }

    private static String deep() {
        StringBuilder out = new StringBuilder("\\a.");
        for (int i = 0; i < 12; i++) {
            out.append("a (\\").append((char) ('b' + i)).append('.');
        }
        return out + "a" + ")".repeat(12);
    }

    /** 2: "a NAME behind '\' within 30 others". */
    private static void namesAround() {
        Due.is("29", Due.told("\\" + ROW.substring(0, ROW.length() - 3) + ".a").count(14), 30);
        Due.is("30", Due.told("\\" + ROW + ".a").count(14), 31);
        fault("\\" + ROW + " ae.a", 2, ROW.length() + 2);
        fault("\\" + ROW + " ae", 2, ROW.length() + 2);
        fault("\\" + ROW + ".\\ae.a", 2, ROW.length() + 3);
        fault("\\" + ROW + ".a(\\a.a)", 2, ROW.length() + 5);
        fault("\\" + ROW.replace(" ", ".\\") + ".\\ae.a", 2, ("\\" + ROW.replace(" ", ".\\") + ".\\").length());
        Due.is("30, each behind its own '\\'", Due.told("\\" + ROW.replace(" ", ".\\") + ".a").count(14), 31);
        // the same name again is one more
        Due.is("30 of one name", Due.told("\\" + "x ".repeat(30) + ".x").count(14), 31);
        fault("\\" + "x ".repeat(31) + ".x", 2, 61);
        // those of a term that has ended are not around
        Due.is("30 and 30", Due.told("(\\" + ROW + ".a)(\\" + ROW + ".a)").count(14), 63);
        Due.is("1 around 29 twice", Due.told("\\a.(\\" + ROW.substring(2) + ".a)(\\" + ROW.substring(2) + ".a)")
            .count(14), 62);
        fault("\\a.(\\" + ROW.substring(2) + ".a)(\\" + ROW + ".a)", 2, 6 + 2 * ROW.length());
        Due.is("30 of another term", Due.told("n=\\" + ROW + ".a;\\" + ROW + ".a").count(14), 31);
        // names and numbers that are put in have no names behind '\' there
        Due.is("30 and a number", Due.told("\\" + ROW + ".1").count(14), 35);
        Due.is("30 and a name", Due.told("n=\\x.x;\\" + ROW.replace("n ", "") + " x.n").count(14), 32);
        Due.is("60 by way of a name", Due.told("nn=\\" + ROW + ".a;\\" + ROW + ".nn").count(14), 61);
    }

    /** 3: "a NAME that stands for nothing": ahead of its ';', outside its function. */
    private static void standsForNothing() {
        fault("x", 3, 0);
        fault("1 x", 3, 2);
        fault("\\x.y", 3, 3);
        fault("(\\x.x) x", 3, 7);
        fault("\\y.(\\x.x) x", 3, 10);
        fault("\\y.y (\\x.x) (x)", 3, 13);
        fault("a=a;a", 3, 2);
        fault("a=\\x.a;a", 3, 5);
        fault("a=b;b=1;a", 3, 2);
        sound("b=1;a=b;a", "\\a.\\b.a b");
        fault("a=\\x.x;x", 3, 7);
        fault("a=\\x.x;b=x;b", 3, 9);
        // a name ahead of '=' is one just if '=' comes behind it, and where one can stand
        fault("a 1=1;a", 3, 0);
        fault("a;1", 3, 0);
        fault("(a=1;a)", 3, 1);
        fault("a=b=1;a", 3, 2);
        fault("1 a=1;a", 3, 2);
        fault("\\x.a=1;a", 3, 3);
    }

    /** "In which these NAMES stand (each hides whatever had that NAME ahead of it)"; "(where it isn't hidden)". */
    private static void hidden() {
        sound("\\x x.x", "\\a.\\b.b");
        sound("\\x.\\x.x", "\\a.\\b.b");
        sound("\\x y x.x y", "\\a.\\b.\\c.c b");
        sound("\\x.(\\x.x) x", "\\a.(\\b.b) a");
        sound("\\x.x (\\x.x) x", "\\a.a (\\b.b) a");
        sound("a=1;\\a.a", "\\a.a");
        sound("a=1;(\\a.a) a", "(\\a.a) (\\a.\\b.a b)");
        sound("a=\\x.x;\\x.a x", "\\a.(\\b.b) a");
        // what a name stands for keeps its own names, whatever is around it
        sound("b=1;a=b;\\b.a b", "\\a.(\\b.\\c.b c) a");
        sound("b=1;a=\\x.b x;\\x b.a b", "\\a.\\b.(\\c.(\\d.\\e.d e) c) b");
        sound("s=0;z=0;\\s z.2 s z", "\\a.\\b.(\\c.\\d.c (c d)) a b");
    }

    /** 4: "a NAME ahead of '=' that is told already". */
    private static void toldAlready() {
        fault("a=1;a=2;a", 4, 4);
        fault("a=1;a=", 4, 4);
        fault("a=1;b=2; a=a;a", 4, 9);
        fault(told(11) + "a=1;a", 4, 44);
        sound("a=1;aa=2;aaa=0;aa", "\\a.\\b.a (a b)");
        sound("ab=1;ba=0;ba", "\\a.\\b.b");
        // a function's name is not told
        sound("a=\\b.b;b=1;b", "\\a.\\b.a b");
        sound("b=\\b.b;b", "\\a.a");
        // without '=' it is no fault
        sound("a=1;a", "\\a.\\b.a b");
    }

    /** "FAULTS, the first along the text." */
    private static void firstAlongTheText() {
        String[] faults = {"?", "12", "x", "=", "abcdefghi"};
        int[] kinds = {1, 2, 3, 1, 2};
        for (int i = 0; i < faults.length; i++) {
            for (int j = 0; j < faults.length; j++) {
                if (!faults[j].equals("=")) {
                    fault("1 " + faults[i] + " " + faults[j], kinds[i], 2);
                    fault("1 (" + faults[i] + ") (" + faults[j], kinds[i], 3);
                }
            }
        }
        fault("a=1;a=?;x", 4, 4);
        fault("a=?;a=1;x", 1, 2);
        fault("a=x;a=1;x", 3, 2);
        fault("a=1;b=x;a=1;a", 3, 6);
        // too big is told last: any other fault stands ahead of the text's length, or at it
        fault("9 9 9 9 9 9 ?", 1, 12);
        fault("9 9 9 9 9 (9", 1, 12);
        fault("9 9 9 9 9 9 x", 3, 12);
        fault("9 9 9 9 9 9 12", 2, 12);
        fault("9 9 9 9 9 9", 5, 11);
        fault(nested(24, 11, " aa", " b b b") + ")", 1, nested(24, 11, " aa", " b b b").length());
    }

    /** "Of one TOKEN the least"; "at a NAME of 9 letters 2 is told ahead of 3, 4". */
    private static void leastOfOneToken() {
        // 1 ahead of 2
        fault("\\12.x", 1, 1);
        fault("\\x 12.x", 1, 3);
        fault("(".repeat(12) + "\\(", 1, 13);
        fault("(".repeat(12) + "\\x(", 1, 14);
        // 2 ahead of 3
        fault("abcdefghi", 2, 0);
        fault("\\abcdefgh.abcdefghi", 2, 10);
        // 2 ahead of 4, and a 13th '=' of a word of 9 letters
        fault(told(12) + "a=1;a", 2, 48);
        fault(told(12) + "l=1;a", 2, 48);
        fault(told(12) + "abcdefghi=1;a", 2, 48);
        fault("abcdefgh=1;abcdefghi=1;a", 2, 11);
        // a 31st name of 9 letters
        fault("\\" + ROW + " abcdefghi.a", 2, ROW.length() + 2);
        // 12 told: 4 is still told of the 12th
        fault(told(11) + "k=1;a", 4, 44);
    }

    /** 5: "the last TERM, all NAMES put in, has more than 120 PARTS", at the text's length. */
    private static void mostParts() {
        for (int more = 0; more < 3; more++) {
            // \x. and n times x: 2 n parts; \x y. and n times x: 2 n and 1
            Due.is("120 parts", Due.told("\\x." + "x" + " x".repeat(59) + " ".repeat(more)).count(14), 120);
            Due.is("119 parts", Due.told("\\x y." + "x" + " x".repeat(58)).count(14), 119);
            String big = "\\x y." + "x" + " x".repeat(59) + " ".repeat(more);
            fault(big, 5, big.length());
        }
        // a name counts as often as it is used, and all that is put into it
        String row = "x" + " x".repeat(18);
        Due.is("3 names of 39, 2 applications: 119", Due.told("n=\\x y." + row + ";n n n").count(14), 119);
        fault("n=\\x y z." + row + ";n n n", 5, ("n=\\x y z." + row + ";n n n").length());
        Due.is("120 by way of a function", Due.told("n=\\x y." + row + ";\\x.n n n").count(14), 120);
        fault("n=\\x y." + row + ";\\x y.n n n", 5, ("n=\\x y." + row + ";\\x y.n n n").length());
        Due.is("names in names", Due.told("i=\\x.x;j=i i i;k=j j j;l=k k k;l").count(14), 80);
        Due.is("names in names and 40 more", Due.told("i=\\x.x;j=i i i;k=j j j;l=k k k;l(\\x." + "x" + " x".repeat(18) + ")").count(14), 119);
        String most = "i=\\x.x;j=i i i;k=j j j;l=k k k;l(\\x y." + "x" + " x".repeat(18) + ")";
        Due.is("and 41 more", Due.told(most).count(14), 120);
        fault(most + "i", 5, most.length() + 1);
        // the numbers' parts count: 5 times 21 and 4 applications are 109
        Due.is("five nines and 9 parts more", Due.told("9 9 9 9 9 2").count(14), 117);
        Due.is("five nines and 3", Due.told("9 9 9 9 9 3").count(14), 119);
        fault("9 9 9 9 9 4", 5, 11);
        Due.is("\\x.9 9 9 9 9 3: 120", Due.told("\\x.9 9 9 9 9 3").count(14), 120);
        fault("\\x y.9 9 9 9 9 3", 5, 16);
        mostNumbers();
        // a term that isn't the last one may be as big as it likes
        sound("a=9 9 9 9 9 9 9;b=a a a;0", "\\a.\\b.b");
        fault("a=9 9 9 9 9 9 9;b=a a a;b", 5, 25);
        tower();
    }

    /** A number n is 3 and 2 n parts, and 1 more is its application. */
    private static void mostNumbers() {
        for (int figure = 0; figure <= 9; figure++) {
            int most = 121 / (4 + 2 * figure);
            String row = "" + figure + (" " + figure).repeat(most - 1);
            Due.is(most + " times " + figure, Due.told(row).count(14), (4 + 2 * figure) * most - 1);
            fault(row + " " + figure, 5, row.length() + 2);
        }
    }

    /** Each name twenty times the one ahead of it: far more parts than an int can count. */
    private static void tower() {
        StringBuilder text = new StringBuilder("a=9;");
        for (char c = 'b'; c <= 'l'; c++) {
            text.append(c).append('=').append((char) (c - 1)).append((" " + (char) (c - 1)).repeat(20)).append(';');
        }
        for (char c = 'b'; c <= 'l'; c++) {
            fault(text.toString() + c, 5, text.length() + 1);
        }
        sound(text + "\\x.x", "\\a.a");
        Due.is("its least name", Due.told(text + "a").count(14), 21);
    }

    /** Names, how deep the row of all but the first one lies in arguments, and what comes behind. */
    private static String nested(int names, int deep, String more, String behind) {
        String row = ROW.substring(0, 2 * names - 1);
        return "\\" + row + more + "." + "a(".repeat(deep) + row.substring(2) + behind + ")".repeat(deep);
    }

    /** 5: "or its NET more than 400 NODES". */
    private static void mostNodes() {
        FanNet x = Due.told(nested(26, 10, "", " b b b"));
        Due.is("400 nodes", x.count(0) + " " + x.count(9), "400 400");
        Due.is("the last one", x.node(399, 0), 3);
        Due.is("none behind it", () -> x.node(400, 0), Due.NSE);
        Due.is("it is read", x.same(0, 2), true);
        FanNet y = Due.told(nested(24, 11, "", " b b b"));
        Due.is("399 nodes", y.count(0), 399);
        // one function more that isn't used is a LAM and an ERASER
        String big = nested(24, 11, " aa", " b b b");
        fault(big, 5, big.length());
        fault(big + " \n", 5, big.length() + 2);
        Due.is("and not for its parts", Due.told(nested(24, 11, " aa", " b b")).count(14) < 119, true);
        // put in by a name, too; the name itself may stand unused
        fault("n=" + big + ";n", 5, big.length() + 4);
        sound("n=" + big + ";1", "\\a.\\b.a b");
    }

    /** "A NUMBER n (0 to 9) is \s z.s (s (.. z)), s n times": as if it had been written out. */
    private static void numbers() {
        String[] written = {"\\s z.z", "\\s z.s z", "\\s z.s (s z)", "\\s z.s (s (s z))"};
        for (int n = 0; n < written.length; n++) {
            FanNet x = Due.told("" + n);
            FanNet y = Due.told(written[n]);
            Due.is("the net of " + n, Due.net(x), Due.net(y));
            Due.is("the parts of " + n, Due.parts(x, 2, 3 + 2 * n), Due.parts(y, 2, 3 + 2 * n));
        }
        Due.is("9", Due.parts(Due.told("9"), 2, 21), "1 1" + " 0 3".repeat(9) + " 2");
    }

    /** A text stands alone: nothing of an earlier one is left, however that ended. */
    private static void oneTextBehindAnother() {
        FanNet x = new FanNet();
        String full = nested(24, 11, " aa", " b b b");
        String tower = "a=9 9 9;b=a a a;c=b b b;c";
        String[] ends = {"a=1;b=0;a", "a=1;b", "a=(1", "a=1", "((((((((((((", "\\a b c", "\\a b c.(a (b", "1 1 1 (", "a=1;a=", "9 9 9 9 9 9",
            full, "n=" + full + ";n 1", "n=" + full + ";1 (1 n)", "n=" + full + ";\\x y.y y x n y", tower, told(12) + "m=", "\\" + ROW + " ae", "1", ""};
        for (String end : ends) {
            Object[][] all = {{"a", 3, 0}, {"b", 3, 0}, {"1)", 1, 1}, {"1;", 1, 1}, {"\\x.c", 3, 3}, {".", 1, 0}, {"a=1", 1, 3}, {"x", 3, 0},
                {"(((((((((((((", 2, 12}, {told(12) + "m=", 2, 48}, {"\\" + ROW + " ae", 2, ROW.length() + 2}};
            for (Object[] one : all) {
                Due.tell(x, end);
                Due.is("'" + one[0] + "' behind '" + end + "'", Due.tell(x, (String) one[0]) + " " + x.fault(), one[1] + " " + one[2]);
            }
            for (String sound : new String[] {"a=2;a", told(12) + "l", around(12, "1"), "\\x.x", "2"}) {
                Due.tell(x, end);
                Due.is("'" + sound + "' behind '" + end + "'", Due.tell(x, sound) + " " + x.fault(), "0 -1");
                FanNet y = Due.told(sound);
                Due.is("its net", Due.net(x) + Due.said(x, 2), Due.net(y) + Due.said(y, 2));
            }
        }
        String long1 = "\\" + ROW + "." + ROW.substring(0, 51);
        String first = Due.net(Due.told(long1));
        FanNet z = new FanNet();
        for (int i = 0; i < 60; i++) {
            Due.is("time " + i, Due.tell(z, long1), 0);
        }
        Due.is("the net is that of the first time", Due.net(z), first);
    }
}
