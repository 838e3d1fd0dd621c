/** Promises 1 to 5: a new object, feed, tell, fault, again; the text's grammar and all its faults. */
public final class TextTest {
    public static void main(String[] args) {
        newObject();
        feed();
        tellOfTheTape();
        sound();
        wrongPlaces();
        tooMuch();
        names();
        tooBig();
        allStays();
        again();
        Due.end();
    }

    private static void newObject() {
        FanNet x = new FanNet();
        Due.is("a new net", Due.net(x), "0:0,0,4; 1:1,0,0,9,8; 2:5,0,6,5");
        Due.is("its counts", Due.counts(x), "3 0 0 0 0 0 0 0 0 3 2 1 0 2 2 0 1 1 0 0 0 1 0 3");
        Due.is("its fault()", x.fault(), -1);
        Due.is("its said(0)", x.said(0), -1);
        Due.is("its term", Due.said(x, 2), "\\a.a");
    }

    private static void feed() {
        FanNet x = new FanNet();
        // of each number the highest byte first
        Due.is("feed", x.feed(0x5C782E5C, 0x792E7820, 0, -1, 0x80FF017F), 20);
        Due.is("tell(7)", x.tell(7), 0);
        Due.is("told", Due.said(x, 2), "\\a.\\b.a");
        Due.is("the rest of the tape is gone", x.count(15), 0);
        x.feed(0x31207F20, 0, 0, 0, 0);
        Due.is("tell(3)", x.tell(3), 1);
        Due.is("fault()", x.fault(), 2);
        x.feed(0xFF313131, 0, 0, 0, 0);
        Due.is("a byte above 127 is no token", x.tell(1), 1);
        for (int i = 1; i <= 35; i++) {
            Due.is("feed " + i, x.feed(0x20202020, 0x20202020, 0x20202020, 0x20202020, 0x20202031), 20 * i);
        }
        Due.is("feed 36", x.feed(0x31313131, 0, 0, 0, 0), -1);
        Due.is("count(15)", x.count(15), 700);
        Due.is("feed 37", x.feed(0, 0, 0, 0, 0), -1);
        Due.is("tell(701)", () -> x.tell(701), Due.IAE);
        Due.is("count(15) behind it", x.count(15), 700);
        Due.is("tell(700): 35 ones are 175 parts and 34 more", x.tell(700), 5);
        Due.is("fault()", x.fault(), 700);
        Due.is("count(15) behind a fault", x.count(15), 0);
        Due.is("feed on the empty tape", x.feed(0, 0, 0, 0, 0), 20);
    }

    private static void tellOfTheTape() {
        FanNet x = new FanNet();
        Due.feed(x, "?");
        Due.is("tell(-1)", () -> x.tell(-1), Due.IAE);
        Due.is("tell(21)", () -> x.tell(21), Due.IAE);
        Due.is("tell(least)", () -> x.tell(Integer.MIN_VALUE), Due.IAE);
        Due.is("tell(greatest)", () -> x.tell(Integer.MAX_VALUE), Due.IAE);
        Due.is("fault() of no text", x.fault(), -1);
        Due.is("the tape stays", x.count(15), 20);
        Due.is("tell(0)", x.tell(0), 1);
        Due.is("fault()", x.fault(), 0);
        Due.is("the tape is empty", x.count(15), 0);
        Due.is("tell(1) of the empty tape", () -> x.tell(1), Due.IAE);
        Due.is("fault() stays", x.fault(), 0);
        Due.is("tell of a sound text", Due.tell(x, "1"), 0);
        Due.is("fault() without", x.fault(), -1);
    }

    private static void term(String text, String due) {
        FanNet x = new FanNet();
        Due.is("tell of " + text, Due.tell(x, text), 0);
        Due.is("fault() of " + text, x.fault(), -1);
        Due.is("told by " + text, Due.said(x, 2), due);
    }

    private static void sound() {
        term("\\x.x", "\\a.a");
        term(" \n\\ x \n. x\n ", "\\a.a");
        term("\\x y z.x y z", "\\a.\\b.\\c.a b c");
        term("\\x y z.x (y z)", "\\a.\\b.\\c.a (b c)");
        term("\\x.\\y.(\\z.z) x y", "\\a.\\b.(\\c.c) a b");
        term("\\x.x (\\y.y) x", "\\a.a (\\b.b) a");
        term("\\x.x \n(\\y.y x)", "\\a.a (\\b.b a)");
        term("((\\x.(x)))", "\\a.a");
        term("(\\x.x)(\\x.x)", "(\\a.a) (\\a.a)");
        term("0", "\\a.\\b.b");
        term("1", "\\a.\\b.a b");
        term("3", "\\a.\\b.a (a (a b))");
        term("\\x.1x2x", "\\a.(\\b.\\c.b c) a (\\b.\\c.b (b c)) a");
        term("\\x x.x", "\\a.\\b.b");
        term("\\x.(\\x.x) x", "\\a.(\\b.b) a");
        term("a=\\x.x;a", "\\a.a");
        term("a=\\x.x;\\a.a", "\\a.a");
        term("a=\\x.x;\\b.a b", "\\a.(\\b.b) a");
        term("a=\\x y.x;b=a a;b b", "(\\a.\\b.a) (\\a.\\b.a) ((\\a.\\b.a) (\\a.\\b.a))");
        term("a = 1 ; b\n=\na;b", "\\a.\\b.a b");
        term("a=\\b.b;b=\\a.a;\\c.a b c", "\\a.(\\b.b) (\\b.b) a");
        term("abcdefgh=0;abcdefgh", "\\a.\\b.b");
        term("\\abcdefgh.abcdefgh", "\\a.a");
        // all of a definition's names end with it
        term("a=(\\x.x)1;\\y.y a", "\\a.a ((\\b.b) (\\b.\\c.b c))");
        // a definition may be far too big, if the last term has no use for it
        term("a=9 9 9 9 9 9 9 9;b=a a a a a a a a a a a a;0", "\\a.\\b.b");
    }

    private static void fault(String text, int kind, int place) {
        FanNet x = new FanNet();
        Due.is("tell of '" + text + "'", Due.tell(x, text), kind);
        Due.is("fault() of '" + text + "'", x.fault(), place);
        Due.is("the term stays behind '" + text + "'", Due.said(x, 2), "\\a.a");
    }

    private static void wrongPlaces() {
        fault("", 1, 0);
        fault("  \n", 1, 3);
        fault("\\", 1, 1);
        fault("\\ ", 1, 2);
        fault("\\.x", 1, 1);
        fault("\\x", 1, 2);
        fault("\\x x", 1, 4);
        fault("\\x.", 1, 3);
        fault("\\x. ", 1, 4);
        fault("\\x.x)", 1, 4);
        fault("(\\x.x", 1, 5);
        fault("(\\x.x ", 1, 6);
        fault("()", 1, 1);
        fault("(", 1, 1);
        fault(")", 1, 0);
        fault("\\x.x;", 1, 4);
        fault("a=\\x.x;", 1, 7);
        fault("a=\\x.x", 1, 6);
        fault("a=", 1, 2);
        fault("a=;", 1, 2);
        fault("=1", 1, 0);
        fault(";1", 1, 0);
        fault(".", 1, 0);
        fault("1.", 1, 1);
        fault("1=2;1", 1, 1);
        fault("(1)=2;1", 1, 3);
        fault("a=1;a a=1;a", 1, 7);
        fault("a=1;(a=2;a)", 1, 6);
        fault("a=1;b=a=1;a", 1, 7);
        fault("a=(1;a)", 1, 4);
        fault("a=1;;a", 1, 4);
        fault("\\1.x", 1, 1);
        fault("\\12.x", 1, 1);
        fault("\\x 1.x", 1, 3);
        fault("\\(x).x", 1, 1);
        fault("\\x(y).x", 1, 2);
        fault("\\x\\y.x", 1, 2);
        fault("\\x=1;x", 1, 2);
        fault("\\x.x \\y.y", 1, 5);
        fault("\\x.\\y.x\\z.z", 1, 7);
        fault("(\\x.x)\\z.z", 1, 6);
        fault("\\x..x", 1, 3);
        fault("?", 1, 0);
        fault("1 ?", 1, 2);
        fault("\\x?.x", 1, 2);
        fault("1\t", 1, 1);
        fault("1\r\n", 1, 1);
        fault("X", 1, 0);
        fault("a=1;aB", 1, 5);
        fault("1,", 1, 1);
    }

    private static void tooMuch() {
        fault("abcdefghi", 2, 0);
        fault("abcdefghi=1;1", 2, 0);
        fault("\\abcdefghi.1", 2, 1);
        fault("\\x abcdefghi.1", 2, 3);
        fault("\\x.x abcdefghijkl", 2, 5);
        fault("12", 2, 0);
        fault("00", 2, 0);
        fault("\\x.x 100 y", 2, 5);
        fault("1 12 x", 2, 2);
        fault("1 x 12", 3, 2);
        term("(".repeat(12) + "1" + ")".repeat(12), "\\a.\\b.a b");
        fault("(".repeat(13) + "1" + ")".repeat(13), 2, 12);
        fault("(".repeat(13), 2, 12);
        fault("(".repeat(12), 1, 12);
        term("\\x." + "x(".repeat(12) + "x" + ")".repeat(12), "\\a." + "a (".repeat(11) + "a a" + ")".repeat(11));
        fault("\\x." + "x(".repeat(13) + "x" + ")".repeat(13), 2, 28);
        term("\\x." + "(x)".repeat(13), "\\a.a" + " a".repeat(12));
        // 12 names are told, not 13; the 13th is too much even if it is told already
        StringBuilder twelve = new StringBuilder();
        for (char c = 'a'; c <= 'l'; c++) {
            twelve.append(c).append("=1;");
        }
        term(twelve + "l", "\\a.\\b.a b");
        fault(twelve + "m=1;m", 2, 48);
        fault(twelve + " a =1;m", 2, 49);
        fault(twelve + "abcdefghi=1;m", 2, 48);
        fault(twelve + "m", 3, 48);
        // 30 names behind '\' one within another, not 31
        String names = "\\a b c d e f g h i j k l m n o p q r s t u v w x y z aa ab ac ad";
        FanNet x = Due.told(names + ".a ad");
        Due.is("30 functions", Due.parts(x, 2, 33), "1 ".repeat(30) + "0 31 2");
        fault(names + " ae.a", 2, names.length() + 1);
        fault(names + ".\\ae.a", 2, names.length() + 2);
        fault(names + ".a (\\ae.a)", 2, names.length() + 5);
        Due.told("(" + names + ".a)(" + names + ".b)");
        Due.told("a=" + names + ".a;\\x.a");
        Due.told(names + ".1");
    }

    private static void names() {
        fault("x", 3, 0);
        fault("abcdefgh", 3, 0);
        fault("\\x.y", 3, 3);
        fault("\\x.xx", 3, 3);
        fault("\\xx.x", 3, 4);
        fault("(\\x.x) x", 3, 7);
        fault("\\x.(\\y.x) y", 3, 10);
        fault("a=a;a", 3, 2);
        fault("a=b;b=1;a", 3, 2);
        fault("a b=1;a", 3, 0);
        fault("a=\\x.x;b=x;a", 3, 9);
        fault("(a=1;a)", 3, 1);
        fault("a=1;\\x.b", 3, 7);
        fault("a=1;a=1;a", 4, 4);
        fault("a=1;b=1;a =1;a", 4, 8);
        fault("a=1;a=?", 4, 4);
        fault("a=1;a=", 4, 4);
        fault("a=1;aa=2;aaa=3;aa=4;1", 4, 15);
        term("a=1;aa=2;aaa=0;aa", "\\a.\\b.a (a b)");
    }

    private static void tooBig() {
        // \x.x x .. with n x is 2 n parts
        Due.is("120 parts", Due.told("\\x." + "x ".repeat(60)).count(14), 120);
        fault("\\x." + "x ".repeat(61), 5, 125);
        fault("\\x y." + "x ".repeat(60), 5, 125);
        fault("9 9 9 9 9 9", 5, 11);
        fault("a=9 9 9;a a  ", 5, 13);
        // many times too big: nothing of it may be laid out
        StringBuilder tower = new StringBuilder("a=\\x.x;");
        for (char c = 'b'; c <= 'l'; c++) {
            tower.append(c).append('=').append((char) (c - 1)).append((" " + (char) (c - 1)).repeat(20)).append(';');
        }
        fault(tower + "l l", 5, tower.length() + 3);
        term(tower + "a", "\\a.a");
        nodes();
    }

    private static final String ALPHABET = "a b c d e f g h i j k l m n o p q r s t u v w x y z";

    /** Names, how deep the row of all but the first one lies in arguments, and what comes behind. */
    private static String nested(int names, int deep, String more, String behind) {
        String row = ALPHABET.substring(0, 2 * names - 1);
        return "\\" + row + more + "." + "a(".repeat(deep) + row.substring(2) + behind + ")".repeat(deep);
    }

    private static void nodes() {
        FanNet x = Due.told(nested(26, 10, "", " b b b"));
        Due.is("nodes of the biggest net", x.count(0), 400);
        Due.is("its parts", x.count(14), 101);
        Due.is("the term it is read as", x.same(0, 2) ? 1 : 0, 1);
        Due.is("node(399, 0)", x.node(399, 0), 3);
        Due.is("node(400, 0)", () -> x.node(400, 0), Due.NSE);
        String more = nested(24, 11, " aa", " b b b");
        fault(more, 5, more.length());
        String less = nested(24, 11, "", " b b b");
        Due.is("two nodes less", Due.told(less).count(0), 399);
    }

    private static void allStays() {
        FanNet x = Due.told("(\\x.x x)(\\y.y)");
        x.run(0, 3);
        x.say(2);
        String net = Due.net(x);
        String counts = Due.counts(x);
        for (String text : new String[] {"?", "12", "x", "a=1;a=1;a", "9 9 9 9 9 9", nested(24, 11, " aa", " b b b")}) {
            Due.tell(x, text);
            Due.is("the net behind " + text, Due.net(x), net);
            Due.is("the counts behind " + text, Due.counts(x), counts);
            Due.is("the term behind " + text, Due.said(x, 2), "(\\a.a a) (\\a.a)");
        }
        Due.is("again behind faults", x.again(), 11);
        Due.is("nodes", x.count(0), 10);
    }

    private static void again() {
        FanNet x = Due.told("(\\x y.x)(\\a.a)(\\b.b b)");
        String net = Due.net(x);
        String counts = Due.counts(x);
        x.run(1, 60);
        int left = x.count(0);
        Due.is("nodes behind a run", left, 3);
        Due.is("again()", x.again(), left);
        Due.is("the net", Due.net(x), net);
        Due.is("the counts", Due.counts(x), counts);
        Due.is("again() at once", x.again(), x.count(0));
        Due.tell(x, "?");
        x.again();
        Due.is("fault() behind again()", x.fault(), 0);
        // counts begin anew with a new text too
        x.run(0, 60);
        Due.tell(x, "0");
        Due.is("counts of a new text", Due.counts(x), "5 0 0 0 0 0 0 0 0 5 3 1 0 3 3 0 1 2 0 0 0 1 1 4");
    }
}
