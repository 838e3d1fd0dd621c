import java.util.ArrayList;
import java.util.Collections;
import java.util.List;

/**
 * Each sentence of the document on nets and steps that names an edge, on both sides of it ("==== 2.", promises 5 to 11
 * and 18). Nets are written as Built has it: kinds (Root, Lam, App, Fan, Bracket, Curl, Eraser) with levels, and wires.
 */
public final class NetEdgesTest {
    private static final String TWICE = "(\\x.x x)(\\y.y)";
    private static final String ROW = "b c d e f g h i j k l m n o p q r s t u v w x";
    /** It is laid as 400 nodes. */
    private static final String SOON_FULL = "n=\\a " + ROW + " aa." + "a(".repeat(11) + ROW + " b b" + ")".repeat(11) + ";(\\x.x) n";

    public static void main(String[] args) {
        portsOfKinds();
        rootIsNotActive();
        headsAlone();
        activeByTheLesser();
        kindsOfSteps();
        jam();
        jamAmongOthers();
        wantedJam();
        levelsBehindAStep();
        joinedPortsWiredToEachOther();
        erasedPortsWiredToEachOther();
        throughPortsWiredToEachOther();
        leastFreeNumber();
        fullOrNot();
        nothingIsLeftOfBoth();
        wantedFull();
        fullByAText();
        lesserCounts();
        nothingWanted();
        mostNodesEver();
        laidAgain();
        runsThatEnd();
        trialsOf400();
        trialsThatEnd();
        trialsTellWhatStepsDo();
        Due.end();
    }

    private static void after(String what, Built net, int way, String due) {
        FanNet x = net.in();
        Due.is(what, x.step(way) + " " + Due.net(x), due);
    }

    /** Two nodes (2 and 3), their heads wired; an eraser at every other port, and at the root. */
    private static Built pair(char one, int level, char other, int otherLevel) {
        StringBuilder nodes = new StringBuilder("R0 E0 " + one + level + " " + other + otherLevel);
        StringBuilder wires = new StringBuilder("0.0-1.0 2.0-3.0");
        int made = 4;
        for (int node = 2; node < 4; node++) {
            for (int port = 1; port < Model.PORTS[Built.KINDS.indexOf(node == 2 ? one : other)]; port++) {
                nodes.append(" E0");
                wires.append(' ').append(node).append('.').append(port).append('-').append(made).append(".0");
                made++;
            }
        }
        return Built.of(nodes.toString(), wires.toString());
    }

    private static String trial(FanNet x, int way) {
        return x.trial(way, 0) + " " + x.trial(way, 1) + " " + x.trial(way, 2) + " " + x.trial(way, 3);
    }

    private static String wanted(FanNet x) {
        return x.wanted(0) + " " + x.wanted(1) + " " + x.wanted(2);
    }

    /** "To what PORT 0, 1, 2 is WIRED (.. NONE: there is no such PORT)"; "there is none, another what". */
    private static void portsOfKinds() {
        FanNet x = Built.of("R0 L3 A2 F1 B4 C5 E0 E0",
            "0.0-1.1 1.0-2.1 1.2-3.1 2.0-3.2 2.2-5.1 3.0-4.1 4.0-6.0 5.0-7.0").in();
        int[] ports = {1, 3, 3, 3, 2, 2, 1};
        int[] levels = {0, 3, 2, 1, 4, 5, 0};
        for (int n = 0; n < 7; n++) {
            int node = n;
            Due.is("kind of " + n, x.node(n, 0), n);
            Due.is("level of " + n, x.node(n, 1), levels[n]);
            for (int p = 0; p < 3; p++) {
                Due.is("port " + p + " of " + n + " is there", x.node(n, 2 + p) != -1, p < ports[n]);
            }
            Due.is("what 5 of " + n, () -> x.node(node, 5), Due.NSE);
            Due.is("what -1 of " + n, () -> x.node(node, -1), Due.NSE);
            Due.is("nodes of kind " + n, x.count(16 + n), n == 6 ? 2 : 1);
        }
        Due.is("4 times the node and the port", x.node(0, 2) + " " + x.node(5, 3) + " " + x.node(2, 4), "5 10 21");
        Due.is("node(7, 0)", x.node(7, 0), 6);
        Due.is("node(8, 0)", () -> x.node(8, 0), Due.NSE);
        Due.is("node(-1, 0)", () -> x.node(-1, 0), Due.NSE);
        Due.is("the greatest level", x.count(2), 5);
    }

    /** "A WIRE is ACTIVE, if both its ends are HEADS, neither of ROOT." */
    private static void rootIsNotActive() {
        FanNet x = new FanNet();
        Due.is("the root's wire to a function's head", x.node(0, 2) + " " + x.count(1), "4 0");
        Due.is("active(0, 0)", () -> x.active(0, 0), Due.NSE);
        Due.is("nothing is wanted", wanted(x), "-1 -1 0");
        FanNet y = Built.of("R0 E0", "0.0-1.0").in();
        Due.is("the root's wire to an eraser", Due.actives(y) + y.step(0) + y.step(1) + y.step(2), "000");
    }

    private static void headsAlone() {
        FanNet x = Built.of("R0 L0 F0 E0", "0.0-1.0 1.1-2.0 1.2-2.1 2.2-3.0").in();
        Due.is("heads at ports 1 and 2", Due.actives(x) + x.count(1), "0");
        FanNet y = Built.of("R0 L0 F0 E0", "0.0-1.1 1.0-2.0 1.2-2.1 2.2-3.0").in();
        Due.is("heads at each other", Due.actives(y) + " " + y.count(1), "1-2:-2 1");
        FanNet z = Built.of("R0 L0 F0 E0", "0.0-1.1 1.0-2.1 1.2-2.2 2.0-3.0").in();
        Due.is("heads at each other", Due.actives(z) + " " + z.count(1), "2-3:5 1");
    }

    /** "Of the i-th ACTIVE WIRE (0 on; by the lesser NODE)"; "there is none, another what". */
    private static void activeByTheLesser() {
        FanNet x = Built.of("R0 E0 E0 E0 E0 E0 E0 E0", "0.0-7.0 1.0-6.0 2.0-3.0 4.0-5.0").in();
        Due.is("active wires", Due.actives(x), "1-6:5; 2-3:5; 4-5:5");
        Due.is("the last one", x.active(2, 0) + " " + x.active(2, 1) + " " + x.active(2, 2), "4 5 5");
        Due.is("none behind it", () -> x.active(3, 0), Due.NSE);
        Due.is("active(-1, 0)", () -> x.active(-1, 0), Due.NSE);
        Due.is("active(0, 3)", () -> x.active(0, 3), Due.NSE);
        Due.is("active(0, -1)", () -> x.active(0, -1), Due.NSE);
    }

    private static final String[] ALIKE = {"-2 1 -2 -2 -2 5", "1 -2 -2 -2 -2 5", "-2 -2 2 -2 -2 5", "-2 -2 -2 2 -2 5",
        "-2 -2 -2 -2 2 5", "5 5 5 5 5 5"};
    /** By the node of the lower level, then by the other one. */
    private static final String[] LOWER = {"-2 -2 -2 -2 -2 5", "-2 -2 -2 -2 -2 5", "3 3 3 3 3 5", "4 4 4 4 4 5", "4 4 4 4 4 5",
        "5 5 5 5 5 5"};

    private static int kind(String[] table, int one, int other) {
        return Integer.parseInt(table[one].split(" ")[other]);
    }

    /** (1) to (5) for any two kinds, of one level, of the lower and the higher one; "all others are a JAM". */
    private static void kindsOfSteps() {
        String kinds = "LAFBCE";
        for (int i = 0; i < 6; i++) {
            for (int j = 0; j < 6; j++) {
                char one = kinds.charAt(i);
                char other = kinds.charAt(j);
                for (int level : new int[] {0, 1, 2, 200, 201, 1000}) {
                    int alike = kind(ALIKE, i, j);
                    worked(pair(one, one == 'E' ? 0 : level, other, other == 'E' ? 0 : level), alike);
                    for (int more : new int[] {1, 2, 50}) {
                        int lower = kind(LOWER, i, j);
                        worked(pair(one, one == 'E' ? 0 : level, other, other == 'E' ? 0 : level + more), lower);
                        worked(pair(other, other == 'E' ? 0 : level + more, one, one == 'E' ? 0 : level), lower);
                    }
                }
            }
        }
    }

    private static void worked(Built net, int kind) {
        FanNet x = net.in();
        String before = Due.net(x);
        Due.is("active(0, 2) of " + net, x.active(0, 2), kind);
        Due.is("step(1) of " + net, x.step(1), kind);
        Due.is("something is done with " + net, !Due.net(x).equals(before), kind > 0);
        Due.is("steps of " + net, x.count(3), kind > 0 ? 1 : 0);
        for (int k = 1; k <= 5; k++) {
            Due.is("steps of kind " + k + " of " + net, x.count(3 + k), k == kind ? 1 : 0);
        }
    }

    /** "All others are a JAM (-2): nothing is done", however often and by whatever call it is asked for. */
    private static void jam() {
        FanNet x = pair('L', 0, 'A', 1).in();
        String before = Due.net(x) + Due.counts(x);
        for (int way = 1; way < 3; way++) {
            Due.is("step", x.step(way) + " " + x.step(way), "-2 -2");
            Due.is("run", x.run(way, 60), 0);
            Due.is("trial", trial(x, way), "0 0 8 -2");
        }
        Due.is("nothing is done", Due.net(x) + Due.counts(x), before);
        Due.is("way 0 has nothing to do with it", x.step(0) + " " + trial(x, 0), "0 0 0 8 0");
        Due.is("again() lays the program", x.again() + " " + x.count(0), "8 3");
    }

    /** A JAM that lies first is not passed over for another wire, and ends a run. */
    private static void jamAmongOthers() {
        Built net = Built.of("R0 E0 C0 B0 E0 E0 C3 C3 E0 E0", "0.0-1.0 2.0-3.0 2.1-4.0 3.1-5.0 6.0-7.0 6.1-8.0 7.1-9.0");
        FanNet x = net.in();
        Due.is("active wires", Due.actives(x), "2-3:-2; 6-7:2");
        Due.is("trials by 1", trial(x, 1), "0 0 10 -2");
        Due.is("trials by 2", trial(x, 2), "2 0 10 -2");
        Due.is("step(1)", x.step(1), -2);
        Due.is("run(1, 3)", x.run(1, 3), 0);
        Due.is("run(2, 60)", x.run(2, 60), 2);
        Due.is("steps", x.count(3) + " " + x.count(5) + " " + x.count(8), "2 1 1");
        Due.is("step(2)", x.step(2), -2);
        Due.is("the JAM is left", Due.actives(x), "2-3:-2");
    }

    private static void wantedJam() {
        // an application of level 0 at a function of level 1
        Built net = Built.of("R0 A0 L1 E0", "0.0-1.1 1.0-2.0 1.2-3.0 2.1-2.2");
        FanNet x = net.in();
        Due.is("a JAM is wanted", wanted(x), "1 2 2");
        Due.is("step(0)", x.step(0) + " " + x.run(0, 60) + " " + trial(x, 0), "-2 0 0 0 4 -2");
        FanNet y = Built.of("R0 A1 L1 E0", "0.0-1.1 1.0-2.0 1.2-3.0 2.1-2.2").in();
        Due.is("of one level", y.step(0) + " " + Due.net(y), "1 0:0,0,12; 3:6,0,0");
    }

    /** "Of the same LEVEL (FAN), one more (BRACKET), one less (CURL)"; the lower ones keep theirs. */
    private static void levelsBehindAStep() {
        String lower = "FBC";
        int[] more = {0, 1, -1};
        int[][] levels = {{0, 1}, {0, 2}, {1, 2}, {3, 7}, {0, 200}, {199, 200}, {200, 201}, {0, 1000}};
        for (int i = 0; i < 3; i++) {
            for (char other : "LAFBC".toCharArray()) {
                for (int[] level : levels) {
                    char low = lower.charAt(i);
                    FanNet x = pair(low, level[0], other, level[1]).in();
                    x.step(2);
                    List<String> due = new ArrayList<>();
                    for (int p = 1; p < Model.PORTS[Built.KINDS.indexOf(low)]; p++) {
                        due.add(other + "" + (level[1] + more[i]));
                    }
                    for (int q = 1; q < Model.PORTS[Built.KINDS.indexOf(other)]; q++) {
                        due.add(low + "" + level[0]);
                    }
                    Collections.sort(due);
                    Due.is(low + "" + level[0] + " through " + other + level[1], nodesButErasers(x), due.toString());
                }
            }
        }
    }

    private static String nodesButErasers(FanNet x) {
        List<String> out = new ArrayList<>();
        int left = x.count(0);
        for (int n = 0; left > 0; n++) {
            int node = n;
            if (!Due.of(() -> x.node(node, 0)).equals(Due.NSE)) {
                left--;
                if (x.node(n, 0) != 0 && x.node(n, 0) != 6) {
                    out.add(Built.KINDS.charAt(x.node(n, 0)) + "" + x.node(n, 1));
                }
            }
        }
        Collections.sort(out);
        return out.toString();
    }

    /** "Where PORTS to be WIRED are WIRED to each other, nothing is left of them": BETA and OUT. */
    private static void joinedPortsWiredToEachOther() {
        for (String nodes : new String[] {"L0 A0", "A0 L0", "L7 A7", "F0 F0", "F3 F3"}) {
            int kind = nodes.startsWith("F") ? 2 : 1;
            String[] inner = {"2.1-3.1 2.2-3.2", "2.1-3.2 2.2-3.1", "2.1-2.2 3.1-3.2"};
            for (String wires : inner) {
                after(nodes + " " + wires, Built.of("R0 E0 " + nodes, "0.0-1.0 2.0-3.0 " + wires), 1, kind + " 0:0,0,4; 1:6,0,0");
            }
            String[] outer = {"2.1-3.1 2.2-4.0 3.2-5.0", "2.2-3.2 2.1-4.0 3.1-5.0", "2.1-3.2 2.2-4.0 3.1-5.0", "2.2-3.1 2.1-4.0 3.2-5.0",
                "2.1-2.2 3.1-4.0 3.2-5.0", "3.1-3.2 2.1-4.0 2.2-5.0"};
            for (String wires : outer) {
                after(nodes + " " + wires, Built.of("R0 E0 " + nodes + " E0 E0", "0.0-1.0 2.0-3.0 " + wires), 1,
                    kind + " 0:0,0,4; 1:6,0,0; 4:6,0,20; 5:6,0,16");
            }
            after(nodes + " apart", Built.of("R0 E0 " + nodes + " E0 E0 E0 E0", "0.0-1.0 2.0-3.0 2.1-4.0 2.2-5.0 3.1-6.0 3.2-7.0"), 1,
                kind + " 0:0,0,4; 1:6,0,0; 4:6,0,24; 5:6,0,28; 6:6,0,16; 7:6,0,20");
        }
        for (String nodes : new String[] {"B0 B0", "C0 C0", "B5 B5", "C5 C5"}) {
            after(nodes, Built.of("R0 E0 " + nodes, "0.0-1.0 2.0-3.0 2.1-3.1"), 1, "2 0:0,0,4; 1:6,0,0");
            after(nodes + " apart", Built.of("R0 E0 " + nodes + " E0 E0", "0.0-1.0 2.0-3.0 2.1-4.0 3.1-5.0"), 1,
                "2 0:0,0,4; 1:6,0,0; 4:6,0,20; 5:6,0,16");
        }
        // the root's wire may come to be that of a port that was joined
        after("the root at port 1", Built.of("R0 L0 A0 E0", "0.0-2.1 1.0-2.0 1.1-1.2 2.2-3.0"), 1, "1 0:0,0,12; 3:6,0,0");
    }

    /** "For each other PORT of the other one, 1 first, an ERASER comes .. (of two ERASERS none)". */
    private static void erasedPortsWiredToEachOther() {
        for (String kind : new String[] {"L0", "A0", "F0", "L4", "A4", "F4", "L201", "A201", "F201"}) {
            // whichever of both has the lesser number
            for (String nodes : new String[] {"E0 " + kind, kind + " E0"}) {
                int other = nodes.startsWith("E") ? 3 : 2;
                FanNet x = Built.of("R0 E0 " + nodes, "0.0-1.0 2.0-3.0 " + other + ".1-" + other + ".2").in();
                Due.is("its ports at each other: " + nodes, x.step(1) + " " + Due.net(x), "5 0:0,0,4; 1:6,0,0; 2:6,0,12; 3:6,0,8");
                Due.is("two erasers: " + nodes, x.step(1) + " " + Due.net(x), "5 0:0,0,4; 1:6,0,0");
                Due.is("none is left: " + nodes, x.step(1) + " " + x.count(8), "0 2");
                after("port 1 first: " + nodes, Built.of("R0 E0 " + nodes + " C0 C0 E0 E0",
                    "0.0-1.0 2.0-3.0 " + other + ".1-4.1 " + other + ".2-5.1 4.0-6.0 5.0-7.0"), 1,
                    "5 0:0,0,4; 1:6,0,0; 2:6,0,17; 3:6,0,21; 4:5,0,24,8; 5:5,0,28,12; 6:6,0,16; 7:6,0,20");
            }
        }
        for (char kind : "BC".toCharArray()) {
            for (int level : new int[] {0, 2, 201}) {
                after("one port: " + kind, pair('E', 0, kind, level), 1, "5 0:0,0,4; 1:6,0,0; 2:6,0,16; 4:6,0,8");
                after("one port: " + kind, pair(kind, level, 'E', 0), 1, "5 0:0,0,4; 1:6,0,0; 2:6,0,16; 4:6,0,8");
            }
        }
        after("two erasers", pair('E', 0, 'E', 0), 1, "5 0:0,0,4; 1:6,0,0");
    }

    /** "(In place of a PORT: WIRED to what that was WIRED to.)" */
    private static void throughPortsWiredToEachOther() {
        after("the other one's ports at each other", Built.of("R0 E0 C0 L1 E0", "0.0-1.0 2.0-3.0 2.1-4.0 3.1-3.2"), 1,
            "4 0:0,0,4; 1:6,0,0; 2:1,0,16,13,21; 3:5,0,20,9; 4:6,0,8; 5:5,0,12,10");
        after("the lower one's ports at each other", Built.of("R0 E0 F0 C1 E0", "0.0-1.0 2.0-3.0 2.1-2.2 3.1-4.0"), 1,
            "3 0:0,0,4; 1:6,0,0; 2:5,1,12,21; 3:5,1,8,22; 4:6,0,20; 5:3,0,16,9,13");
        after("a port of one at one of the other", Built.of("R0 E0 C0 C1", "0.0-1.0 2.0-3.0 2.1-3.1"), 1,
            "4 0:0,0,4; 1:6,0,0; 2:5,0,12,13; 3:5,0,8,9");
        after("both ports crosswise", Built.of("R0 E0 F0 F1", "0.0-1.0 2.0-3.0 2.1-3.2 2.2-3.1"), 1,
            "3 0:0,0,4; 1:6,0,0; 2:3,1,20,17,21; 3:3,1,16,18,22; 4:3,0,12,9,13; 5:3,0,8,10,14");
    }

    /** "A new one has the least number that is free"; "both NODES go first (their numbers are free then)". */
    private static void leastFreeNumber() {
        FanNet x = Built.of("R0 E0 L0 A0 E0 E0 E0 E0 F0 L1 E0 E0 E0 E0",
            "0.0-1.0 2.0-3.0 2.1-4.0 2.2-5.0 3.1-6.0 3.2-7.0 8.0-9.0 8.1-10.0 8.2-11.0 9.1-12.0 9.2-13.0").in();
        Due.is("a beta", x.step(1), 1);
        Due.is("its numbers are free", Due.of(() -> x.node(2, 0)) + Due.of(() -> x.node(3, 0)), Due.NSE + Due.NSE);
        Due.is("a fan through a function", x.step(2), 3);
        Due.is("the least numbers first", x.node(2, 0) + " " + x.node(3, 0) + " " + x.node(8, 0) + " " + x.node(9, 0), "1 1 3 3");
        Due.is("none behind the others", () -> x.node(14, 0), Due.NSE);
        FanNet y = pair('F', 0, 'L', 1).in();
        y.step(1);
        Due.is("those that went, then those behind all", y.node(2, 0) + " " + y.node(3, 0) + " " + y.node(8, 0) + " " + y.node(9, 0),
            "1 1 3 3");
        Due.is("node 10", () -> y.node(10, 0), Due.NSE);
        Due.is("the root is node 0", y.node(0, 0), 0);
    }

    /** "A STEP by which there would be more than 400 NODES isn't done (FULL)": how many each kind of step makes. */
    private static void fullOrNot() {
        full("LA", 0, 0, -2);
        full("FF", 0, 0, -2);
        full("BB", 0, 0, -2);
        full("CC", 0, 0, -2);
        full("FL", 0, 1, 2);
        full("FA", 0, 1, 2);
        full("FF", 0, 1, 2);
        full("FB", 0, 1, 1);
        full("FC", 0, 1, 1);
        for (String low : new String[] {"B", "C"}) {
            full(low + "L", 0, 1, 1);
            full(low + "A", 0, 1, 1);
            full(low + "F", 0, 1, 1);
            full(low + "B", 0, 1, 0);
            full(low + "C", 0, 1, 0);
        }
        full("EL", 0, 1, 0);
        full("EA", 0, 1, 0);
        full("EF", 0, 1, 0);
        full("EB", 0, 1, -1);
        full("EC", 0, 1, -1);
        full("EE", 0, 0, -2);
    }

    private static void full(String kinds, int level, int otherLevel, int more) {
        for (int nodes = 397; nodes <= 400; nodes++) {
            FanNet x = pair(kinds.charAt(0), level, kinds.charAt(1), otherLevel).padded(nodes).in();
            String what = kinds + " with " + nodes;
            String before = Due.net(x) + Due.counts(x);
            boolean done = nodes + more <= 400;
            Due.is("trial of " + what, (x.trial(1, 0) == 0) + " " + (x.trial(1, 3) == -1), !done + " " + !done);
            int kind = x.active(0, 2);
            Due.is("step of " + what, x.step(1), done ? kind : -1);
            Due.is("nodes of " + what, x.count(0), done ? nodes + more : nodes);
            Due.is("the most nodes of " + what, x.count(9), done ? Math.max(nodes, nodes + more) : nodes);
            if (!done) {
                Due.is("nothing is done with " + what, x.step(2) + " " + x.run(1, 60) + Due.net(x) + Due.counts(x), "-1 0" + before);
            }
        }
    }

    /** "Both NODES go": with all numbers in use, too, neither kind, level nor wire of them is left. */
    private static void nothingIsLeftOfBoth() {
        for (char kind : "FBC".toCharArray()) {
            for (int nodes : new int[] {20, 399, 400}) {
                FanNet x = pair(kind, 9, kind, 9).padded(nodes).in();
                int curls = x.count(21);
                Due.is("at first", x.count(2) + " " + x.count(16 + Built.KINDS.indexOf(kind)), "9 " + (kind == 'C' ? curls : 2));
                Due.is("two go out", x.step(1), 2);
                Due.is("their level", x.count(2), 0);
                Due.is("their kind", x.count(16 + Built.KINDS.indexOf(kind)), kind == 'C' ? curls - 2 : 0);
                Due.is("their wire", x.count(1), kind == 'F' ? 2 : 1);
                for (int node : new int[] {2, 3, 400, 401, 402}) {
                    Due.is("node " + node, () -> x.node(node, 0), Due.NSE);
                }
            }
        }
    }

    private static void wantedFull() {
        Built net = Built.of("R0 F0 L1 E0", "0.0-1.1 1.0-2.0 1.2-3.0 2.1-2.2");
        for (int nodes = 397; nodes <= 400; nodes++) {
            FanNet x = net.padded(nodes).in();
            Due.is("it is wanted", wanted(x), "1 2 2");
            Due.is("step(0) with " + nodes, x.step(0), nodes <= 398 ? 3 : -1);
            Due.is("wanted behind it", nodes <= 398 || wanted(x).equals("1 2 2"), true);
        }
    }

    /** The same edge in a program's net: 400 nodes are made, 401 aren't. */
    private static void fullByAText() {
        FanNet x = Due.told(SOON_FULL);
        Due.is("laid, beta, moved, moved, full", x.count(0) + " " + x.step(0) + x.count(0) + " " + x.step(0) + x.count(0) + " "
            + x.step(0) + x.count(0) + " " + x.step(0) + x.count(0), "400 1398 4399 4400 -1400");
        Due.is("steps", x.count(3) + " " + x.run(0, 60) + " " + x.trial(0, 0) + " " + x.trial(0, 3), "3 0 0 -1");
        Due.is("it is read all the same", x.count(10) > 0 && x.count(11) == 0 && x.wanted(2) > 0, true);
        int all = 0;
        for (int kind = 0; kind < 7; kind++) {
            all += x.count(16 + kind);
        }
        Due.is("nodes of all kinds", all, 400);
        int heads = 0;
        for (int node = 1; node < 400; node++) {
            int other = x.node(node, 2);
            heads += other % 4 == 0 && other > 0 ? 1 : 0;
        }
        Due.is("active wires", x.count(1), heads / 2);
        int behind = heads / 2;
        Due.is("no further one", () -> x.active(behind, 0), Due.NSE);
        for (int node = 400; node < 404; node++) {
            int none = node;
            Due.is("node(" + node + ", 0)", () -> x.node(none, 0), Due.NSE);
        }
        Due.is("the greatest level: 13 arguments deep", x.count(2), 13);
    }

    /** "The NODE with the least number (1; of both ends the lesser counts), with the greatest (2; likewise)". */
    private static void lesserCounts() {
        Built net = Built.of("R0 E0 E0 E0 E0 E0 E0 E0", "0.0-7.0 1.0-6.0 2.0-3.0 4.0-5.0");
        FanNet x = net.in();
        x.step(1);
        Due.is("by the least", Due.actives(x), "2-3:5; 4-5:5");
        FanNet y = net.in();
        y.step(2);
        Due.is("by the greatest of the lesser ones", Due.actives(y), "1-6:5; 2-3:5");
        y.step(2);
        Due.is("and the next one", Due.actives(y), "1-6:5");
    }

    /** "0: there is none"; "wanted: NONE .. 0: none": whatever else is active. */
    private static void nothingWanted() {
        FanNet x = Built.of("R0 L0 E0 E0", "0.0-1.0 1.1-1.2 2.0-3.0").in();
        Due.is("wanted", wanted(x), "-1 -1 0");
        Due.is("count(1), count(11)", x.count(1) + " " + x.count(11), "1 1");
        Due.is("step(0), run(0, 9), trial(0)", x.step(0) + " " + x.run(0, 9) + " " + trial(x, 0), "0 0 0 0 4 0");
        Due.is("steps that aren't done don't count", x.count(3), 0);
        Due.is("step(1)", x.step(1) + " " + x.step(1) + " " + x.step(2) + " " + x.count(3), "5 0 0 1");
        FanNet y = Due.told(TWICE);
        Due.is("something is wanted", wanted(y) + " " + y.count(11), "1 2 2 0");
    }

    /** "The most NODES there ever were", since the counts began. */
    private static void mostNodesEver() {
        FanNet x = Due.told(TWICE);
        Due.is("at first", x.count(9), 10);
        x.step(0);
        Due.is("fewer", x.count(0) + " " + x.count(9), "8 10");
        x.run(0, 60);
        Due.is("at the end", x.count(0) + " " + x.count(9), "3 11");
        x.again();
        Due.is("anew", x.count(9), 10);
        x.run(0, 60);
        Due.tell(x, "0");
        Due.is("of another text", x.count(9), 5);
        x.trial(1, 2);
        Due.tell(x, TWICE);
        x.trial(1, 2);
        Due.is("trials don't count", x.count(9) + " " + x.count(3), "10 0");
    }

    /** "The NET is laid as at first, counts begin anew: how many NODES there were." */
    private static void laidAgain() {
        FanNet x = Due.told(TWICE);
        String net = Due.net(x);
        String counts = Due.counts(x);
        Due.is("at once", x.again(), 10);
        for (int steps = 1; steps <= 17; steps++) {
            x.run(0, steps);
            int nodes = x.count(0);
            Due.is("again behind " + steps, x.again(), nodes);
            Due.is("the net behind " + steps, Due.net(x), net);
            Due.is("the counts behind " + steps, Due.counts(x), counts);
        }
        Due.feed(x, "1");
        x.again();
        Due.is("the tape stays", x.count(15), 20);
    }

    /** "So many STEPS (0 to 60), or till one isn't 1 to 5: how many were done." */
    private static void runsThatEnd() {
        FanNet x = Due.told(TWICE);
        Due.is("none", x.run(0, 0) + " " + x.count(3), "0 0");
        Due.is("one", x.run(0, 1) + " " + x.count(3), "1 1");
        Due.is("15 of 16", x.run(0, 15) + " " + x.count(3), "15 16");
        Due.is("the last of 2", x.run(0, 2) + " " + x.count(3), "1 17");
        Due.is("none is left", x.run(0, 60) + " " + x.run(1, 60) + " " + x.run(2, 60), "0 0 0");
        x.again();
        Due.is("just as many as there are", x.run(0, 17) + " " + x.step(0), "17 0");
        FanNet y = Due.told("(\\x.x x)(\\x.x x)");
        Due.is("60 of many", y.run(1, 60) + " " + y.count(3), "60 60");
        Due.is("61", () -> y.run(1, 61), Due.IAE);
        Due.is("-1", () -> y.run(1, -1), Due.IAE);
        Due.is("none was done", y.count(3), 60);
    }

    private static int stepsOf(FanNet x, int way) {
        int all = 0;
        int done = 60;
        for (int i = 0; i < 100 && done == 60; i++) {
            done = x.run(way, 60);
            all += done;
        }
        Due.is("its end", x.step(way), 0);
        x.again();
        return all;
    }

    private static void runs(FanNet x, int way, int steps) {
        for (int left = steps; left > 0; left -= 60) {
            x.run(way, Math.min(60, left));
        }
    }

    /** "At most 400 .., how it ends: .. or 1: behind 400", even where nothing is left then: 398 to 402 steps. */
    private static void trialsOf400() {
        for (int way = 0; way < 3; way++) {
            FanNet x = Due.told("2 2 2 (\\x.x)");
            int all = stepsOf(x, way);
            Due.is("steps by " + way, all, 568);
            runs(x, way, all - 402);
            String[] due = {"400 1", "400 1", "400 1", "399 0", "398 0"};
            for (int left = 402; left >= 398; left--) {
                Due.is(left + " steps by " + way, x.trial(way, 0) + " " + x.trial(way, 3), due[402 - left]);
                Due.is("nothing stays of " + left + " by " + way, x.count(3), all - left);
                x.step(way);
            }
        }
    }

    private static void trialsThatEnd() {
        FanNet v = Due.told("(\\x y.x x y)(\\y.y)");
        for (int steps = 0; steps < 20; steps++) {
            // read, tried and read again: what is known of the net is not that of the trial
            String before = Due.counts(v) + Due.net(v) + wanted(v) + Due.said(v, 0);
            for (int way = 0; way < 3; way++) {
                v.trial(way, steps % 4);
                Due.is("nothing stays of a trial by " + way, Due.counts(v) + Due.net(v) + wanted(v) + Due.said(v, 0), before);
                v.trial(way, 3);
                Due.is("nor behind it", v.wanted(0) + " " + v.wanted(1) + " " + v.wanted(2), wanted(v));
            }
            v.step(steps % 3);
        }
        FanNet x = Due.told(TWICE);
        Due.is("of all steps", trial(x, 0), "17 2 11 0");
        x.run(0, 16);
        Due.is("of one", trial(x, 0), "1 0 5 0");
        x.run(0, 1);
        Due.is("of none", trial(x, 0), "0 0 3 0");
        FanNet y = Due.told("(\\x y.y)(\\z.z z)");
        Due.is("the nodes at its beginning count", trial(y, 0), "1 1 12 0");
        FanNet z = Due.told(SOON_FULL);
        Due.is("full", trial(z, 0) + ", " + trial(z, 1) + ", " + trial(z, 2), "3 1 400 -1, 3 1 400 -1, 4 1 400 -1");
        Due.is("nothing stays", z.count(0) + " " + z.count(3) + " " + z.run(2, 60), "400 0 4");
        Due.is("way ahead of what", () -> x.trial(3, 4), Due.IAE);
        Due.is("way", () -> x.trial(-1, 0), Due.IAE);
        Due.is("what", () -> x.trial(0, 4), Due.NSE);
        Due.is("what", () -> x.trial(2, -1), Due.NSE);
    }

    /** "How many STEPS it takes .., how many BETAS of these, the most NODES on the way, how it ends": as step() does it. */
    private static void trialsTellWhatStepsDo() {
        for (String text : Programs.WRITTEN) {
            for (int way = 0; way < 3; way++) {
                FanNet x = new FanNet();
                if (Due.tell(x, text) != 0) {
                    break;
                }
                // an earlier trial of another net must not show in this one
                x.trial(2 - way, 0);
                x.run(2 - way, 13);
                String told = trial(x, way);
                x.trial(2 - way, 0);
                Due.is("once more " + text + " by " + way, trial(x, way), told);
                Due.is("trial of " + text + " by " + way, told, stepped(x, way));
            }
        }
    }

    private static String stepped(FanNet x, int way) {
        int steps = 0;
        int betas = 0;
        int most = x.count(0);
        int kind = 1;
        while (steps < 400 && kind > 0) {
            kind = x.step(way);
            steps += kind > 0 ? 1 : 0;
            betas += kind == 1 ? 1 : 0;
            most = Math.max(most, x.count(0));
        }
        return steps + " " + betas + " " + most + " " + Math.min(kind, 1);
    }
}
