/** Promises 6 to 11 and 18: step, run, count, node, active, wanted, trial. The nets were worked out by hand. */
public final class NetTest {
    private static final String TWICE = "(\\x.x x)(\\y.y)";

    public static void main(String[] args) {
        laid();
        worked();
        erased();
        ways();
        counts();
        wrongNumbers();
        full();
        runs();
        trials();
        notRead();
        mostParts();
        mostWires();
        mostLevel();
        fullNet();
        Due.end();
    }

    private static void laid() {
        Due.is("the net", Due.net(Due.told(TWICE)), "0:0,0,5; 1:2,0,8,0,32; 2:1,0,4,13,28; 3:2,0,17,9,21; 4:5,0,29,12; "
            + "5:5,1,25,14; 6:4,0,30,20; 7:3,0,10,16,24; 8:1,1,6,37,36; 9:5,1,34,33");
        // a variable that isn't used: the eraser comes behind what the function gives
        Due.is("an eraser", Due.net(Due.told("\\x y.y")), "0:0,0,4; 1:1,0,0,8,16; 2:1,0,5,13,12; 3:5,0,10,9; 4:6,0,6");
        Due.is("an eraser in an argument", Due.net(Due.told("\\x.x (\\y.x)")), "0:0,0,4; 1:1,0,0,9,32; 2:2,0,13,5,16; "
            + "3:5,0,33,8; 4:1,1,10,21,24; 5:5,1,29,17; 6:6,0,18; 7:4,0,34,20; 8:3,0,6,12,28");
        // brackets of all variables first, that of the outermost function ahead, then the fans
        Due.is("two variables", Due.net(Due.told("\\x y.y x (x y)")), "0:0,0,4; 1:1,0,0,8,56; 2:1,0,5,13,60; 3:2,0,17,9,33; "
            + "4:2,0,21,12,25; 5:5,0,61,16; 6:5,1,29,18; 7:4,0,57,24; 8:2,1,37,14,41; 9:5,1,49,32; 10:5,2,45,34; "
            + "11:4,1,53,40; 12:4,0,58,36; 13:4,0,62,44; 14:3,0,6,28,48; 15:3,0,10,20,52");
    }

    private static void after(FanNet x, int way, int kind, String net, String actives, String wanted) {
        Due.is("step(" + way + ")", x.step(way), kind);
        Due.is("the net behind it", Due.net(x), net);
        Due.is("its active wires", Due.actives(x), actives);
        Due.is("what is wanted", x.wanted(0) + " " + x.wanted(1) + " " + x.wanted(2), wanted);
    }

    private static void worked() {
        FanNet x = Due.told(TWICE);
        Due.is("active wires at first", Due.actives(x), "1-2:1");
        Due.is("what is wanted at first", x.wanted(0) + " " + x.wanted(1) + " " + x.wanted(2), "1 2 2");
        // both go, and what their ports were wired to is wired
        after(x, 0, 1, "0:0,0,13; 3:2,0,17,0,21; 4:5,0,29,12; 5:5,1,25,14; 6:4,0,30,20; 7:3,0,32,16,24; 8:1,1,28,37,36; "
            + "9:5,1,34,33", "7-8:3", "7 8 4");
        // a fan of level 0 through a function of level 1: two functions first, then two fans
        after(x, 0, 3, "0:0,0,13; 1:1,1,16,29,33; 2:1,1,24,30,34; 3:2,0,17,0,21; 4:5,0,4,12; 5:5,1,25,14; 6:4,0,8,20; "
            + "7:3,0,37,5,9; 8:3,0,36,6,10; 9:5,1,32,28", "1-4:4; 2-6:4; 8-9:3", "1 4 3");
        // a curl of level 0 through a function of level 1, which is lowered
        after(x, 0, 4, "0:0,0,13; 1:1,0,12,17,41; 2:1,1,24,30,34; 3:2,0,4,0,21; 4:5,0,29,5; 5:5,1,25,14; 6:4,0,8,20; "
            + "7:3,0,37,16,9; 8:3,0,36,40,10; 9:5,1,32,28; 10:5,0,33,6", "1-3:1; 2-6:4; 8-9:3", "1 3 2");
        Due.is("counts of steps", x.count(3) + " " + x.count(4) + " " + x.count(5) + " " + x.count(6) + " " + x.count(7), "3 1 0 1 1");
        // two curls of one level go out
        FanNet y = Due.told("(\\x.x) ((\\y.y) (\\z.z))");
        Due.is("active wires at first", Due.actives(y), "1-2:1; 4-5:1");
        after(y, 2, 1, "0:0,0,5; 1:2,0,8,0,25; 2:1,0,4,13,12; 3:5,0,10,9; 6:5,1,28,6; 7:1,2,24,33,32; 8:5,2,30,29",
            "1-2:1; 6-7:4", "1 2 2");
        after(y, 2, 4, "0:0,0,5; 1:2,0,8,0,16; 2:1,0,4,13,12; 3:5,0,10,9; 4:1,1,6,21,25; 5:5,1,33,17; 6:5,1,32,18; "
            + "8:5,2,24,20", "1-2:1; 6-8:4", "1 2 2");
        after(y, 2, 4, "0:0,0,5; 1:2,0,8,0,16; 2:1,0,4,13,12; 3:5,0,10,9; 4:1,1,6,21,24; 5:5,1,28,17; 6:5,1,18,29; "
            + "7:5,1,20,25", "1-2:1; 5-7:2", "1 2 2");
        after(y, 2, 2, "0:0,0,5; 1:2,0,8,0,16; 2:1,0,4,13,12; 3:5,0,10,9; 4:1,1,6,25,24; 6:5,1,18,17", "1-2:1", "1 2 2");
        after(y, 0, 1, "0:0,0,13; 3:5,0,16,0; 4:1,1,12,25,24; 6:5,1,18,17", "3-4:4", "3 4 2");
        Due.is("the rest", y.run(0, 60), 3);
        Due.is("the last net", Due.net(y), "0:0,0,4; 1:1,0,0,13,12; 3:5,0,6,5");
        Due.is("none is left", y.step(0) + " " + y.step(1) + " " + y.step(2), "0 0 0");
    }

    private static void erased() {
        FanNet x = Due.told("(\\x y.y)(\\z.z z)");
        // the rest is not wanted
        after(x, 0, 1, "0:0,0,12; 3:1,0,0,17,16; 4:5,0,14,13; 5:6,0,24; 6:1,1,20,29,44; 7:2,1,33,25,37; 8:5,1,45,28; "
            + "9:5,2,41,30; 10:4,1,46,36; 11:3,1,26,32,40", "5-6:5", "-1 -1 0");
        Due.is("count(11): nothing is wanted", x.count(11), 1);
        Due.is("step(0)", x.step(0), 0);
        after(x, 1, 5, "0:0,0,12; 1:6,0,29; 2:6,0,44; 3:1,0,0,17,16; 4:5,0,14,13; 7:2,1,33,4,37; 8:5,1,45,28; 9:5,2,41,30; "
            + "10:4,1,46,36; 11:3,1,8,32,40", "2-11:5", "-1 -1 0");
        after(x, 1, 5, "0:0,0,12; 1:6,0,29; 2:6,0,32; 3:1,0,0,17,16; 4:5,0,14,13; 5:6,0,40; 7:2,1,33,4,37; 8:5,1,8,28; "
            + "9:5,2,41,30; 10:4,1,20,36", "2-8:5; 5-10:5", "-1 -1 0");
        Due.is("run(1, 2)", x.run(1, 2), 2);
        // two erasers
        Due.is("active wires", Due.actives(x), "1-2:5; 5-10:5");
        after(x, 1, 5, "0:0,0,12; 3:1,0,0,17,16; 4:5,0,14,13; 5:6,0,40; 6:6,0,37; 9:5,2,41,24; 10:4,1,20,36", "5-10:5", "-1 -1 0");
        Due.is("run(1, 60)", x.run(1, 60), 3);
        Due.is("nodes", x.count(0), 3);
        Due.is("erased", x.count(8), 8);
    }

    private static void ways() {
        FanNet x = Due.told("\\a.a ((\\b.b) a) ((\\c.c) a)");
        Due.is("active wires", Due.actives(x), "5-6:1; 12-13:1");
        x.step(2);
        Due.is("the one of the greatest node is gone", Due.actives(x).startsWith("5-6:1"), true);
        x.again();
        x.step(1);
        Due.is("the one of the least node is gone", Due.actives(x).endsWith("12-13:1"), true);
        x.again();
        Due.is("wanted", x.wanted(0), 5);
    }

    private static void counts() {
        FanNet x = Due.told(TWICE);
        Due.is("counts at first", Due.counts(x), "10 1 1 0 0 0 0 0 0 10 7 0 2 2 7 0 1 2 2 1 1 3 0 13");
        x.run(0, 60);
        Due.is("counts at the end", Due.counts(x), "3 0 0 17 2 5 2 8 0 11 2 1 2 2 7 0 1 1 0 0 0 1 0 3");
        Due.feed(x, " ");
        Due.is("bytes of the tape", x.count(15), 20);
        FanNet y = Due.told("\\a b c.a (b (c (a b)))");
        Due.is("the greatest level", y.count(2), 4);
        Due.is("the kinds", y.count(16) + " " + y.count(17) + " " + y.count(18) + " " + y.count(19) + " " + y.count(20) + " "
            + y.count(21) + " " + y.count(22), "1 3 4 2 9 5 0");
        FanNet z = Due.told("(\\x y.y)(\\z.z z)");
        z.step(0);
        Due.is("the most nodes ever are those at first", z.count(9), 12);
    }

    private static void wrongNumbers() {
        FanNet x = Due.told(TWICE);
        int[] odd = {-1, Integer.MIN_VALUE, Integer.MAX_VALUE, -4, 1 << 30};
        for (int k : odd) {
            Due.is("count", () -> x.count(k), Due.NSE);
            Due.is("node", () -> x.node(k, 0), Due.NSE);
            Due.is("node's what", () -> x.node(1, k), Due.NSE);
            Due.is("active", () -> x.active(k, 0), Due.NSE);
            Due.is("active's what", () -> x.active(0, k), Due.NSE);
            Due.is("wanted", () -> x.wanted(k), Due.NSE);
            Due.is("step", () -> x.step(k), Due.IAE);
            Due.is("run's way", () -> x.run(k, 0), Due.IAE);
            Due.is("run's number", () -> x.run(0, k), Due.IAE);
            Due.is("trial's way", () -> x.trial(k, 0), Due.IAE);
            Due.is("trial's what", () -> x.trial(0, k), Due.NSE);
            Due.is("trial's way first", () -> x.trial(k, k), Due.IAE);
        }
        Due.is("count(24)", () -> x.count(24), Due.NSE);
        Due.is("node(10, 0)", () -> x.node(10, 0), Due.NSE);
        Due.is("node(1, 5)", () -> x.node(1, 5), Due.NSE);
        Due.is("active(1, 0)", () -> x.active(1, 0), Due.NSE);
        Due.is("active(0, 3)", () -> x.active(0, 3), Due.NSE);
        Due.is("wanted(3)", () -> x.wanted(3), Due.NSE);
        Due.is("step(3)", () -> x.step(3), Due.IAE);
        Due.is("run(3, 1)", () -> x.run(3, 1), Due.IAE);
        Due.is("run(0, 61)", () -> x.run(0, 61), Due.IAE);
        Due.is("trial(3, 0)", () -> x.trial(3, 0), Due.IAE);
        Due.is("trial(2, 4)", () -> x.trial(2, 4), Due.NSE);
        Due.is("nothing was done", x.count(3), 0);
        x.step(0);
        Due.is("a node that is gone", () -> x.node(1, 0), Due.NSE);
        Due.is("a node that stays", x.node(3, 0), 2);
    }

    /** A step that would make more than 400 nodes isn't done, however often it is asked for. */
    private static void full() {
        for (int way = 0; way < 3; way++) {
            FanNet x = Due.told("2 2 2 2");
            int steps = 0;
            int done = 60;
            for (int i = 0; i < 60 && done == 60; i++) {
                done = x.run(way, 60);
                steps += done;
            }
            String counts = Due.counts(x);
            int nodes = x.count(0);
            Due.is("nodes", nodes >= 399 && nodes <= 400, true);
            Due.is("the most nodes", x.count(9) <= 400, true);
            Due.is("steps", x.count(3), steps);
            Due.is("step when full", x.step(way), -1);
            Due.is("run when full", x.run(way, 60), 0);
            Due.is("trial when full", x.trial(way, 0) + " " + x.trial(way, 1) + " " + x.trial(way, 3), "0 0 -1");
            Due.is("its most nodes", x.trial(way, 2), nodes);
            Due.is("counts", Due.counts(x), counts);
        }
    }

    private static void runs() {
        FanNet x = Due.told("(\\x.x x)(\\x.x x)");
        Due.is("run(0, 0)", x.run(0, 0), 0);
        Due.is("nothing is done", x.count(3), 0);
        Due.is("run(0, 60)", x.run(0, 60), 60);
        Due.is("run(1, 60)", x.run(1, 60), 60);
        Due.is("run(2, 1)", x.run(2, 1), 1);
        Due.is("steps", x.count(3), 121);
        Due.is("all kinds", x.count(4) + x.count(5) + x.count(6) + x.count(7) + x.count(8), 121);
        FanNet y = Due.told(TWICE);
        Due.is("run(0, 16)", y.run(0, 16), 16);
        Due.is("run(0, 60)", y.run(0, 60), 1);
        Due.is("run(0, 60)", y.run(0, 60), 0);
        // one run is as many steps
        FanNet z = Due.told(TWICE);
        for (int i = 0; i < 17; i++) {
            Due.is("a step", z.step(0) > 0, true);
        }
        Due.is("the same net", Due.net(z), Due.net(y));
    }

    private static String trial(FanNet x, int way) {
        return x.trial(way, 0) + " " + x.trial(way, 1) + " " + x.trial(way, 2) + " " + x.trial(way, 3);
    }

    private static void trials() {
        FanNet x = Due.told(TWICE);
        String net = Due.net(x);
        String counts = Due.counts(x);
        Due.is("trial(0)", trial(x, 0), "17 2 11 0");
        Due.is("nothing stays", Due.net(x), net);
        Due.is("nothing is counted", Due.counts(x), counts);
        x.run(0, 3);
        Due.is("trial(0) of what is left", trial(x, 0), "14 1 11 0");
        Due.is("trial(1) of what is left", trial(x, 1), "14 1 12 0");
        x.run(1, 60);
        Due.is("trial at the end", trial(x, 1), "0 0 3 0");
        x.again();
        Due.is("trial(0) again", trial(x, 0), "17 2 11 0");
        FanNet y = Due.told("(\\x.x x)(\\x.x x)");
        for (int way = 0; way < 3; way++) {
            Due.is("a trial without end", y.trial(way, 0) + " " + y.trial(way, 3), "400 1");
        }
        FanNet z = Due.told("(\\x y.y)(\\z.z z)");
        Due.is("only what is wanted", trial(z, 0), "1 1 12 0");
        Due.is("whatever lies first", trial(z, 1), "9 1 12 0");
        Due.tell(z, "\\x.x");
        Due.is("of another program", trial(z, 1), "0 0 3 0");
    }

    /** A net can be sound and yet too big to be read. */
    private static void notRead() {
        FanNet x = Due.told("5 5");
        while (x.step(0) > 0) {
            if (x.count(10) < 0) {
                break;
            }
        }
        Due.is("it was read up to some step", x.count(10), -1);
        Due.is("nothing is said", x.say(0), -1);
        Due.is("part(0, 0)", () -> x.part(0, 0), Due.NSE);
        Due.is("same(0, 0)", () -> x.same(0, 0) ? 1 : 0, Due.NSE);
        Due.is("same(2, 0)", () -> x.same(2, 0) ? 1 : 0, Due.NSE);
        Due.is("redexes(0)", () -> x.redexes(0), Due.NSE);
        Due.is("count(11)", x.count(11), 0);
        FanNet y = Due.told("(\\x.x x x)(\\x.x x x)");
        int done = 60;
        for (int i = 0; i < 30 && done == 60; i++) {
            done = y.run(0, 60);
        }
        Due.is("a walk that is too long", y.count(23), 4001);
        Due.is("is not read", y.count(10), -1);
        Due.is("but something is wanted", y.wanted(2) > 0, true);
    }

    private static String names(int from, int n) {
        StringBuilder out = new StringBuilder();
        for (int i = from; i < from + n; i++) {
            out.append(i > from ? " " : "").append('v').append((char) ('a' + i));
        }
        return out.toString();
    }

    /** Behind one step 14 copies of 26 parts are read, 15 parts of applications, and the functions around. */
    private static void mostParts() {
        String big = "(\\" + names(0, 25) + ".va)";
        for (int around = 20; around <= 23; around++) {
            FanNet x = Due.told("(\\x.\\" + names(0, around) + ".va" + " x".repeat(14) + ")" + big);
            Due.is("a beta", x.step(0), 1);
            int parts = around + 1 + 14 * 27;
            Due.is("parts with " + around, x.count(10), parts <= 400 ? parts : -1);
            Due.is("said with " + around, x.say(0) > 0, parts <= 400);
            // with 401 parts one is lost at the very last wire, with 402 two ahead of it
            Due.is("wires with " + around, x.count(23), 526 + around - (parts == 402 ? 2 : 0));
        }
    }

    /** Functions around a term bring a wire each: so 4000 are met to the wire. */
    private static void mostWires() {
        String grows = "(\\x.va (x x))(\\x.va (\\q.q (x x)))";
        FanNet x = Due.told("\\va." + grows);
        int steps = 0;
        while (steps < 2000 && x.count(23) != 3996) {
            steps += x.step(0) > 0 ? 1 : 2000;
        }
        int wires = x.count(23);
        Due.is("a term of nearly 4000 wires is read", steps < 2000 && x.count(10) > 0, true);
        for (int more = 1; more <= 7; more++) {
            FanNet y = Due.told("\\" + names(0, 1 + more) + "." + grows);
            for (int i = 0; i < steps; i += 60) {
                y.run(0, Math.min(60, steps - i));
            }
            boolean read = wires + more <= 4000;
            Due.is("read over " + (wires + more), y.count(10), read ? x.count(10) + more : -1);
            Due.is("wires of " + (wires + more), y.count(23), read ? wires + more : 4001);
            Due.is("wanted with " + (wires + more), y.wanted(2), x.wanted(2) + more);
        }
    }

    /** The level of what is wanted rises step by step here, till one comes to a node of level 201. */
    private static void mostLevel() {
        FanNet x = Due.told("y=\\f.(\\x.f (x x))(\\x.f (x x)); y (\\a.a)");
        for (int i = 0; i < 168; i++) {
            Due.is("run " + i, x.run(0, 60), 60);
        }
        Due.is("levels up to 200 are read", x.count(2) + " " + x.count(10) + " " + x.wanted(2), "200 9 205");
        Due.is("run up to level 201", x.run(0, 60), 11);
        Due.is("one is lost", x.count(2) + " " + x.count(10) + " " + x.count(11) + " " + x.count(23), "201 -1 0 205");
        Due.is("nothing is wanted", x.wanted(0) + " " + x.wanted(1) + " " + x.wanted(2), "-1 -1 0");
        Due.is("step(0)", x.step(0), 0);
        Due.is("trial(0)", trial(x, 0), "0 0 228 0");
        Due.is("but there are active wires", x.step(1), 4);
    }

    /** In a full net a step is done if it makes no more nodes than it takes. */
    private static void fullNet() {
        String row = "b c d e f g h i j k l m n o p q r s t u v w x";
        String big = "\\a " + row + " aa." + "a(".repeat(11) + row + " b b" + ")".repeat(11);
        FanNet x = Due.told("n=" + big + ";(\\x.x) n");
        Due.is("nodes", x.count(0), 400);
        Due.is("a beta", x.step(0), 1);
        Due.is("nodes behind it", x.count(0), 398);
        Due.is("a curl through a function", x.step(0), 4);
        Due.is("nodes behind it", x.count(0), 399);
        Due.is("the most nodes", x.count(9), 400);
        Due.is("and another one", x.step(0), 4);
        Due.is("nodes behind it", x.count(0), 400);
        Due.is("no further one", x.step(0), -1);
        Due.is("what was not done isn't counted", x.count(3), 3);
    }
}
