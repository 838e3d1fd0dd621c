/**
 * Each sentence of the document on reading that names an edge, on both sides of it ("==== 3." up to WANTED, and what the
 * calls say of a net that is not read). Nets are written as Built has it: kinds (Root, Lam, App, Fan, Bracket, Curl,
 * Eraser) with levels, and wires; every function here has its own variable right behind it, if nothing else is said.
 */
public final class ReadEdgesTest {
    public static void main(String[] args) {
        emptyStacks();
        topOfAStack();
        stackOfItsLevel();
        newStacks();
        stacksTakenOut();
        couples();
        onACouple();
        couplesAreMovedToo();
        sameStacksBelow();
        couplesInCouples();
        noSuchFunction();
        theInnermost();
        asAtTheApplication();
        erasersAndOtherPorts();
        levelsUpTo200();
        stacksBeyond200();
        wantedAsFarAsOneComes();
        firstActiveWire();
        mostParts();
        lostAtThePartTooMany();
        mostWires();
        manyWalks();
        Due.end();
    }

    private static String wanted(FanNet x) {
        return x.wanted(0) + " " + x.wanted(1) + " " + x.wanted(2);
    }

    private static void read(String nodes, String wires, String parts, int walked) {
        FanNet x = Built.of(nodes, wires).in();
        String what = nodes + " " + wires;
        int n = parts.split(" ").length;
        Due.is("parts of " + what, x.count(10), n);
        if (x.count(10) == n) {
            Due.is("read of " + what, Due.parts(x, 0, n), parts);
        }
        Due.is("no further part of " + what, () -> x.part(0, n), Due.NSE);
        Due.is("wires of " + what, x.count(23), walked);
        Due.is("count(11) of " + what, x.count(11), x.wanted(2) == 0 ? 1 : 0);
        Due.is("say(0) of " + what, x.say(0) > 0, true);
    }

    private static void lost(String nodes, String wires, int walked) {
        FanNet x = Built.of(nodes, wires).in();
        String what = nodes + " " + wires;
        x.say(2);
        Due.is("parts of " + what, x.count(10), -1);
        Due.is("wires of " + what, x.count(23), walked);
        Due.is("count(11) of " + what, x.count(11), 0);
        Due.is("say(0) of " + what, x.say(0), -1);
        Due.is("what was said stays: " + what, x.said(0) + " " + x.said(4), "92 -1");
        Due.is("part(0, 0) of " + what, () -> x.part(0, 0), Due.NSE);
        Due.is("same of " + what, Due.of(() -> x.same(0, 2) ? 1 : 0) + Due.of(() -> x.same(1, 0) ? 1 : 0), Due.NSE + Due.NSE);
        Due.is("redexes(0) of " + what, () -> x.redexes(0), Due.NSE);
        Due.is("the other terms of " + what, x.redexes(2) + " " + x.same(1, 2), "0 true");
    }

    /** "With an empty STACK at each LEVEL"; "the top of STACK n is taken off", "(the top isn't as told ..)". */
    private static void emptyStacks() {
        lost("R0 F0 E0 E0", "0.0-1.0 1.1-2.0 1.2-3.0", 1);
        lost("R0 F7 E0 E0", "0.0-1.0 1.1-2.0 1.2-3.0", 1);
        lost("R0 B0 L0", "0.0-1.0 1.1-2.0 2.1-2.2", 1);
        lost("R0 B200 L0", "0.0-1.0 1.1-2.0 2.1-2.2", 1);
        // an empty one is what a curl is to take out
        read("R0 C0 L0", "0.0-1.0 1.1-2.0 2.1-2.2", "1 2", 3);
        read("R0 C200 L0", "0.0-1.0 1.1-2.0 2.1-2.2", "1 2", 3);
    }

    /** "A 1 (2) is put on top ..; by 1 (2) one goes on from PORT 1 (2)": the latest one is taken first. */
    private static void topOfAStack() {
        read("R0 F0 F0 L0 E0 E0", "0.0-1.1 1.0-2.0 2.1-3.0 3.1-3.2 1.2-4.0 2.2-5.0", "1 2", 4);
        read("R0 F0 F0 L0 E0 E0", "0.0-1.2 1.0-2.0 2.2-3.0 3.1-3.2 1.1-4.0 2.1-5.0", "1 2", 4);
        lost("R0 F0 F0 L0 E0 E0", "0.0-1.1 1.0-2.0 2.2-3.0 3.1-3.2 1.2-4.0 2.1-5.0", 3);
        lost("R0 F0 F0 L0 E0 E0", "0.0-1.2 1.0-2.0 2.1-3.0 3.1-3.2 1.1-4.0 2.2-5.0", 3);
        String two = "R0 F0 F0 F0 F0 L0 E0 E0 E0 E0";
        read(two, "0.0-1.1 1.0-2.2 2.0-3.0 3.2-4.0 4.1-5.0 5.1-5.2 1.2-6.0 2.1-7.0 3.1-8.0 4.2-9.0", "1 2", 6);
        lost(two, "0.0-1.1 1.0-2.2 2.0-3.0 3.1-4.0 4.2-5.0 5.1-5.2 1.2-6.0 2.1-7.0 3.2-8.0 4.1-9.0", 4);
        // a third one takes off what isn't there any longer
        lost("R0 F0 F0 F0 L0 E0 E0 E0", "0.0-1.1 1.0-2.0 2.1-3.0 3.1-4.0 4.1-4.2 1.2-5.0 2.2-6.0 3.2-7.0", 3);
    }

    private static void stackOfItsLevel() {
        for (int level : new int[] {0, 1, 5, 199, 200}) {
            String both = "R0 F" + level + " F" + level + " L0 E0 E0";
            read(both, "0.0-1.1 1.0-2.0 2.1-3.0 3.1-3.2 1.2-4.0 2.2-5.0", "1 2", 4);
            String apart = "R0 F" + level + " F" + (level == 0 ? 1 : level - 1) + " L0 E0 E0";
            lost(apart, "0.0-1.1 1.0-2.0 2.1-3.0 3.1-3.2 1.2-4.0 2.2-5.0", 2);
        }
    }

    /** "CURL of n, PORT 1: a new empty STACK comes at LEVEL n (those from n on are one LEVEL higher)". */
    private static void newStacks() {
        read("R0 C0 C0 L0", "0.0-1.1 1.0-2.0 2.1-3.0 3.1-3.2", "1 2", 4);
        String wires = "0.0-1.1 1.0-2.1 2.0-3.0 3.1-4.0 4.1-4.2 1.2-5.0 3.2-6.0";
        read("R0 F0 C0 F1 L0 E0 E0", wires, "1 2", 5);
        lost("R0 F0 C0 F0 L0 E0 E0", wires, 3);
        read("R0 F0 C1 F0 L0 E0 E0", wires, "1 2", 5);
        lost("R0 F0 C1 F1 L0 E0 E0", wires, 3);
        read("R0 F3 C3 F4 L0 E0 E0", wires, "1 2", 5);
        read("R0 F3 C4 F3 L0 E0 E0", wires, "1 2", 5);
        read("R0 F3 C2 F4 L0 E0 E0", wires, "1 2", 5);
    }

    /** "Its HEAD: STACK n, which is empty, is taken out". */
    private static void stacksTakenOut() {
        String wires = "0.0-1.1 1.0-2.0 2.1-3.0 3.1-3.2 1.2-4.0";
        lost("R0 F0 C0 L0 E0", wires, 2);
        read("R0 F0 C1 L0 E0", wires, "1 2", 4);
        read("R0 F1 C0 L0 E0", wires, "1 2", 4);
        // a couple is something, even one of two empty stacks
        lost("R0 B0 C0 L0", "0.0-1.1 1.0-2.0 2.1-3.0 3.1-3.2", 2);
        // those behind come one level lower
        String behind = "0.0-1.1 1.0-2.0 2.1-3.0 3.1-4.0 4.1-4.2 1.2-5.0 3.2-6.0";
        read("R0 F1 C0 F0 L0 E0 E0", behind, "1 2", 5);
        lost("R0 F1 C0 F1 L0 E0 E0", behind, 3);
        read("R0 F1 C2 F1 L0 E0 E0", behind, "1 2", 5);
    }

    /** "BRACKET of n, PORT 1: STACKS n and n and 1 become one thing, a COUPLE ..; its HEAD: .. becomes both again". */
    private static void couples() {
        String wires = "0.0-1.1 1.0-2.0 2.1-3.0 3.1-3.2";
        read("R0 B0 B0 L0", wires, "1 2", 4);
        read("R0 B5 B5 L0", wires, "1 2", 4);
        lost("R0 B0 B1 L0", wires, 2);
        lost("R0 B1 B0 L0", wires, 2);
        // what lay on both levels comes back to them
        String both = "0.0-1.1 1.0-2.2 2.0-3.1 3.0-4.0 4.1-5.0 5.2-6.0 6.1-7.0 7.1-7.2 1.2-8.0 2.1-9.0 5.1-10.0 6.2-11.0";
        String ends = " L0 E0 E0 E0 E0";
        read("R0 F0 F1 B0 B0 F1 F0" + ends, both, "1 2", 8);
        lost("R0 F0 F1 B0 B0 F0 F1" + ends, both, 6);
        // a turn, or a turn on a couple, is no couple alone
        lost("R0 F0 B0 L0 E0", "0.0-1.1 1.0-2.0 2.1-3.0 3.1-3.2 1.2-4.0", 2);
        // a couple is no turn
        lost("R0 B0 F0 L0 E0", "0.0-1.1 1.0-2.0 2.1-3.0 3.1-3.2 2.2-4.0", 2);
        // not even one with a turn in it, of either level
        String turn = "0.0-1.1 1.0-2.1 2.0-3.0 3.1-4.0 4.1-4.2 1.2-5.0 3.2-6.0";
        lost("R0 F0 B0 F0 L0 E0 E0", turn, 3);
        lost("R0 F1 B0 F0 L0 E0 E0", turn, 3);
        lost("R0 F1 B0 F1 L0 E0 E0", turn, 3);
    }

    /** "(.. On a COUPLE 1, 2 may be put.)" */
    private static void onACouple() {
        read("R0 B0 F0 F0 B0 L0 E0 E0", "0.0-1.1 1.0-2.1 2.0-3.0 3.1-4.0 4.1-5.0 5.1-5.2 2.2-6.0 3.2-7.0", "1 2", 6);
        lost("R0 B0 F0 B0 L0 E0", "0.0-1.1 1.0-2.1 2.0-3.0 3.1-4.0 4.1-4.2 2.2-5.0", 3);
        // a couple of such a one
        read("R0 B0 F0 B0 B0 F0 B0 L0 E0 E0",
            "0.0-1.1 1.0-2.2 2.0-3.1 3.0-4.0 4.1-5.0 5.2-6.0 6.1-7.0 7.1-7.2 2.1-8.0 5.1-9.0", "1 2", 8);
    }

    /** "(those behind are one LEVEL lower)", and higher again behind the head; curls move couples, too. */
    private static void couplesAreMovedToo() {
        String wires = "0.0-1.1 1.0-2.1 2.0-3.0 3.1-4.0 4.1-4.2 1.2-5.0 3.2-6.0";
        read("R0 F2 B0 F1 L0 E0 E0", wires, "1 2", 5);
        lost("R0 F2 B0 F2 L0 E0 E0", wires, 3);
        read("R0 F9 B3 F8 L0 E0 E0", wires, "1 2", 5);
        read("R0 F0 B1 F0 L0 E0 E0", wires, "1 2", 5);
        read("R0 F2 B0 B0 F2 L0 E0 E0", "0.0-1.1 1.0-2.1 2.0-3.0 3.1-4.0 4.1-5.0 5.1-5.2 1.2-6.0 4.2-7.0", "1 2", 6);
        read("R0 B0 C0 B1 L0", "0.0-1.1 1.0-2.1 2.0-3.0 3.1-4.0 4.1-4.2", "1 2", 5);
        lost("R0 B0 C0 B0 L0", "0.0-1.1 1.0-2.1 2.0-3.0 3.1-4.0 4.1-4.2", 3);
    }

    /** "That is this LAM and had the same STACKS at all LEVELS below that of the LAM". */
    private static void sameStacksBelow() {
        String wires = "0.0-1.0 1.1-2.1 2.0-1.2 2.2-3.0";
        read("R0 L0 F0 E0", wires, "1 2", 3);
        lost("R0 L1 F0 E0", wires, 3);
        read("R0 L1 F1 E0", wires, "1 2", 3);
        read("R0 L2 F2 E0", wires, "1 2", 3);
        lost("R0 L2 F1 E0", wires, 3);
        lost("R0 L2 F0 E0", wires, 3);
        lost("R0 L200 F199 E0", wires, 3);
        read("R0 L200 F200 E0", wires, "1 2", 3);
        // the same turn as then, and another one
        String same = "0.0-1.1 1.0-2.0 2.1-3.0 3.1-4.1 4.0-2.2 1.2-5.0 3.2-6.0 4.2-7.0";
        read("R0 F0 L1 F0 F0 E0 E0 E0", same, "1 2", 5);
        String other = "0.0-1.1 1.0-2.0 2.1-3.0 3.1-4.2 4.0-2.2 1.2-5.0 3.2-6.0 4.1-7.0";
        lost("R0 F0 L1 F0 F0 E0 E0 E0", other, 5);
        read("R0 F0 L0 F0 F0 E0 E0 E0", other, "1 2", 5);
    }

    /** "(STACKS are alike, if all in them is, COUPLES in COUPLES, too ..)": couples made anew are the same. */
    private static void couplesInCouples() {
        // a couple ahead of the function; behind it both again, something put on one of them, and a couple anew
        String wires = "0.0-1.1 1.0-2.0 2.1-3.0 3.1-4.1 4.0-2.2";
        read("R0 B0 L1 B0 B0", wires, "1 2", 5);
        String put = "0.0-1.1 1.0-2.0 2.1-3.0 3.1-4.1 4.0-5.1 5.0-2.2 4.2-6.0";
        lost("R0 B0 L1 B0 F0 B0 E0", put, 6);
        lost("R0 B0 L1 B0 F1 B0 E0", put, 6);
        read("R0 B0 L1 B0 F2 B0 E0", put, "1 2", 6);
        read("R0 B0 L0 B0 F0 B0 E0", put, "1 2", 6);
        lost("R0 B0 L2 B0 F2 B0 E0", put, 6);
        // couples in couples: two brackets on either side
        String deep = "0.0-1.1 1.0-2.1 2.0-3.0 3.1-4.0 4.1-5.0 5.1-6.1 6.0-7.1 7.0-8.1 8.0-3.2 6.2-9.0";
        lost("R0 B0 B0 L1 B0 B0 F0 B0 B0 E0", deep, 9);
        lost("R0 B0 B0 L1 B0 B0 F1 B0 B0 E0", deep, 9);
        lost("R0 B0 B0 L1 B0 B0 F2 B0 B0 E0", deep, 9);
        read("R0 B0 B0 L1 B0 B0 F3 B0 B0 E0", deep, "1 2", 9);
        read("R0 B0 B0 L1 B0 B0 B0 B0", "0.0-1.1 1.0-2.1 2.0-3.0 3.1-4.0 4.1-5.0 5.1-6.1 6.0-7.1 7.0-3.2", "1 2", 8);
        // first and second are not the same
        lost("R0 B0 B0 L1 B0 B0 B1 B0", "0.0-1.1 1.0-2.1 2.0-3.0 3.1-4.0 4.1-5.0 5.1-6.1 6.0-7.1 7.0-3.2", 8);
    }

    /** "No such function": one that isn't on the way, or lies elsewhere than around. */
    private static void noSuchFunction() {
        lost("R0 L0 L0 E0", "0.0-1.0 1.1-2.2 1.2-2.1 2.0-3.0", 2);
        // in the function of an application, not around its argument
        lost("R0 A0 L0 L0", "0.0-1.1 1.0-2.0 2.1-3.0 3.1-3.2 1.2-2.2", 5);
        read("R0 L0 A0 L0", "0.0-1.0 1.1-2.1 2.0-3.0 3.1-3.2 2.2-1.2", "1 0 1 2 2", 5);
    }

    /** "(the innermost such one)": a function within itself, by way of a fan. */
    private static void theInnermost() {
        String wires = "0.0-1.1 1.0-2.0 2.1-3.0 3.1-1.2 3.2-2.2";
        read("R0 F0 L0 F0", wires, "1 1 2", 7);
        lost("R0 F0 L1 F0", wires, 7);
        // of level 1 the stack tells which: as the first time, as the second time
        String which = "0.0-1.1 1.0-2.0 2.1-3.0 3.1-1.2 4.0-2.2";
        read("R0 F0 L1 F0 F0 E0", which + " 3.2-4.1 4.2-5.0", "1 1 3", 8);
        read("R0 F0 L1 F0 F0 E0", which + " 3.2-4.2 4.1-5.0", "1 1 2", 8);
        read("R0 F0 L0 F0 F0 E0", which + " 3.2-4.1 4.2-5.0", "1 1 2", 8);
        // twice with the same stacks: the latest one
        read("R0 F1 L1 F1", wires, "1 1 2", 7);
    }

    /** "Behind all of that from PORT 2, with STACKS as they were at the APP." */
    private static void asAtTheApplication() {
        String wires = "0.0-1.1 1.0-2.1 2.0-3.0 3.1-5.0 5.1-5.2 2.2-4.0 4.1-6.0 6.1-6.2 1.2-7.0 3.2-8.0 4.2-9.0";
        read("R0 F0 A0 F0 F0 L0 L0 E0 E0 E0", wires, "0 1 2 1 2", 8);
        read("R0 F3 A0 F3 F3 L0 L0 E0 E0 E0", wires, "0 1 2 1 2", 8);
        // the function opens a stack, makes a couple, takes one out; the argument finds all as it was
        String more = "0.0-1.1 1.0-2.1 2.0-3.X 3.Y-5.0 5.1-5.2 2.2-4.0 4.1-6.0 6.1-6.2 1.2-7.0 4.2-8.0";
        String in = more.replace("3.X", "3.1").replace("3.Y", "3.0");
        String out = more.replace("3.X", "3.0").replace("3.Y", "3.1");
        read("R0 F2 A0 C0 F2 L0 L0 E0 E0", in, "0 1 2 1 2", 8);
        read("R0 F2 A0 B0 F2 L0 L0 E0 E0", in, "0 1 2 1 2", 8);
        read("R0 F0 A0 B0 F0 L0 L0 E0 E0", in, "0 1 2 1 2", 8);
        read("R0 F2 A0 C0 F2 L0 L0 E0 E0", out, "0 1 2 1 2", 8);
        read("R0 B0 A0 B0 B0 L0 L0", "0.0-1.1 1.0-2.1 2.0-3.0 3.1-5.0 5.1-5.2 2.2-4.0 4.1-6.0 6.1-6.2", "0 1 2 1 2", 8);
    }

    /** "An ERASER, another PORT". */
    private static void erasersAndOtherPorts() {
        lost("R0 E0", "0.0-1.0", 1);
        lost("R0 C0 E0", "0.0-1.1 1.0-2.0", 2);
        lost("R0 L0 E0 E0", "0.0-1.1 1.0-2.0 1.2-3.0", 1);
        lost("R0 A0 E0 E0", "0.0-1.0 1.1-2.0 1.2-3.0", 1);
        lost("R0 A0 E0 E0", "0.0-1.2 1.1-2.0 1.0-3.0", 1);
        read("R0 A0 L0 L0", "0.0-1.1 1.0-2.0 1.2-3.0 2.1-2.2 3.1-3.2", "0 1 2 1 2", 5);
        // in the argument, behind all of the function
        lost("R0 A0 L0 E0", "0.0-1.1 1.0-2.0 1.2-3.0 2.1-2.2", 4);
    }

    /** "A NODE of a LEVEL above 200". */
    private static void levelsUpTo200() {
        for (int level = 199; level <= 201; level++) {
            String l = "" + level;
            String[][] all = {
                {"R0 L" + l, "0.0-1.0 1.1-1.2", "1 2", "2"},
                {"R0 A" + l + " L0 L0", "0.0-1.1 1.0-2.0 1.2-3.0 2.1-2.2 3.1-3.2", "0 1 2 1 2", "5"},
                {"R0 F" + l + " F" + l + " L0 E0 E0", "0.0-1.1 1.0-2.0 2.1-3.0 3.1-3.2 1.2-4.0 2.2-5.0", "1 2", "4"},
                {"R0 F" + l + " F" + l + " L0 E0 E0", "0.0-1.2 1.0-2.0 2.2-3.0 3.1-3.2 1.1-4.0 2.1-5.0", "1 2", "4"},
                {"R0 B" + l + " B" + l + " L0", "0.0-1.1 1.0-2.0 2.1-3.0 3.1-3.2", "1 2", "4"},
                {"R0 C" + l + " L0", "0.0-1.1 1.0-2.0 2.1-2.2", "1 2", "3"},
                {"R0 C" + l + " L0", "0.0-1.0 1.1-2.0 2.1-2.2", "1 2", "3"},
            };
            for (String[] one : all) {
                if (level <= 200) {
                    read(one[0], one[1], one[2], Integer.parseInt(one[3]));
                } else {
                    lost(one[0], one[1], 1);
                }
            }
        }
        // what lies off the way may have any level
        read("R0 L0 C201", "0.0-1.0 1.1-1.2 2.0-2.1", "1 2", 2);
        lost("R0 L0 L1000 E0", "0.0-1.0 1.1-2.0 2.1-2.2 1.2-3.0", 2);
    }

    /** A stack may come to lie above level 200 by curls, and be made a couple with that of level 200. */
    private static void stacksBeyond200() {
        String wires = "0.0-1.1 1.0-2.1 2.0-3.1 3.0-4.0 4.1-5.0 5.1-6.0 6.1-7.0 7.1-7.2 1.2-8.0 6.2-9.0";
        read("R0 F200 C200 B200 B200 C200 F200 L0 E0 E0", wires, "1 2", 8);
        lost("R0 F200 C200 B200 B200 F200 L0 E0 E0", "0.0-1.1 1.0-2.1 2.0-3.1 3.0-4.0 4.1-5.0 5.1-6.0 6.1-6.2 1.2-7.0 5.2-8.0", 5);
        // a hundred curls lift it to level 300, and a hundred take it down again
        StringBuilder nodes = new StringBuilder("R0 F200");
        StringBuilder way = new StringBuilder("0.0-1.1 1.0-2.1");
        for (int i = 2; i < 202; i++) {
            nodes.append(i % 2 == 0 ? " C200" : " C0");
            way.append(i < 101 ? " " + i + ".0-" + (i + 1) + ".1" : i == 101 ? " 101.0-102.0" : " " + i + ".1-" + (i + 1) + ".0");
        }
        nodes.append(" F200 L0 E0 E0");
        way.append(" 202.1-203.0 203.1-203.2 1.2-204.0 202.2-205.0");
        read(nodes.toString(), way.toString(), "1 2", 204);
    }

    /** "WANTED is the first ACTIVE WIRE over which one walks so (as far as one comes); none." */
    private static void wantedAsFarAsOneComes() {
        // one is lost at the very end of that wire
        FanNet x = Built.of("R0 F0 L201 E0", "0.0-1.1 1.0-2.0 2.1-2.2 1.2-3.0").in();
        Due.is("lost at its end", wanted(x) + " " + x.count(10) + " " + x.count(23) + " " + x.count(11), "1 2 2 -1 2 0");
        Due.is("it is worked off", x.step(0), 3);
        // lost ahead of it, and just not
        FanNet y = Built.of("R0 L201 C0 C0", "0.0-1.0 1.1-2.1 2.0-3.0 3.1-1.2").in();
        Due.is("lost ahead of it", Due.actives(y) + " " + wanted(y) + " " + y.count(10) + " " + y.step(0), "2-3:2 -1 -1 0 -1 0");
        FanNet z = Built.of("R0 L200 C0 C0", "0.0-1.0 1.1-2.1 2.0-3.0 3.1-1.2").in();
        Due.is("not lost", Due.actives(z) + " " + wanted(z) + " " + z.count(10) + " " + z.step(0), "2-3:2 2 3 3 2 2");
        Due.is("nothing is wanted then", wanted(z) + " " + z.count(11) + " " + z.step(0), "-1 -1 0 1 0");
        // lost behind it: in the argument
        FanNet v = Built.of("R0 A0 L0 E0", "0.0-1.1 1.0-2.0 1.2-3.0 2.1-2.2").in();
        Due.is("lost behind it", wanted(v) + " " + v.count(10) + " " + v.count(23), "1 2 2 -1 4");
    }

    private static void firstActiveWire() {
        // two on the way: the one that one comes to first, whatever its numbers are
        FanNet x = Built.of("R0 C1 C1 C0 C0 L0", "0.0-3.1 3.0-4.0 4.1-1.1 1.0-2.0 2.1-5.0 5.1-5.2").in();
        Due.is("both", Due.actives(x) + " " + wanted(x), "1-2:2; 3-4:2 3 4 2");
        Due.is("worked off", x.step(0) + " " + wanted(x) + " " + x.step(0) + " " + wanted(x), "2 1 2 2 2 -1 -1 0");
        // in the function ahead of the argument
        FanNet y = Built.of("R0 A0 C0 C0 C0 C0 L0 L0",
            "0.0-1.1 1.0-4.1 4.0-5.0 5.1-6.0 6.1-6.2 1.2-2.1 2.0-3.0 3.1-7.0 7.1-7.2").in();
        Due.is("the function's first", Due.actives(y) + " " + wanted(y), "2-3:2; 4-5:2 4 5 3");
        y.step(0);
        Due.is("the application itself", wanted(y), "1 6 2");
        // off the way: not at all
        FanNet z = Built.of("R0 L0 C0 C0", "0.0-1.0 1.1-1.2 2.0-3.0 2.1-3.1").in();
        Due.is("off the way", Due.actives(z) + " " + wanted(z) + " " + z.count(11), "2-3:2 -1 -1 0 1");
    }

    /** "Likewise with more than 400 PARTS": 399 functions and a variable are 400. */
    private static void mostParts() {
        for (int functions = 397; functions <= 399; functions += 2) {
            StringBuilder nodes = new StringBuilder("R0");
            StringBuilder wires = new StringBuilder("0.0-1.0");
            for (int i = 1; i <= functions; i++) {
                nodes.append(" L").append(i % 3);
                wires.append(' ').append(i).append(".1-").append(i < functions ? i + 1 + ".0" : i + ".2");
                if (i % 2 == 0) {
                    wires.append(' ').append(i - 1).append(".2-").append(i).append(".2");
                }
            }
            read(nodes.toString(), wires.toString(), "1 ".repeat(functions) + "2", functions + 1);
        }
        // behind one step: 14 copies of 26 parts, 15 parts of applications, and the functions around
        String big = "(\\" + names(25) + ".va)";
        for (int around = 19; around <= 24; around++) {
            FanNet x = Due.told("(\\x.\\" + names(around) + ".va" + " x".repeat(14) + ")" + big);
            Due.is("a beta", x.step(0), 1);
            int parts = around + 1 + 14 * 27;
            Due.is("parts with " + around, x.count(10), parts <= 400 ? parts : -1);
            Due.is("part 399 with " + around, () -> x.part(0, 399), parts == 400 ? "26" : Due.NSE);
            Due.is("redexes with " + around, () -> x.redexes(0), parts <= 400 ? "0" : Due.NSE);
        }
    }

    private static String names(int n) {
        StringBuilder out = new StringBuilder();
        for (int i = 0; i < n; i++) {
            out.append(i > 0 ? " " : "").append('v').append((char) ('a' + i));
        }
        return out.toString();
    }

    /** One is lost at the 401st part, of whatever sort, and walks no further. */
    private static void lostAtThePartTooMany() {
        // a function within itself without end: two wires each
        lost("R0 F0 L0 E0", "0.0-1.1 1.0-2.0 2.1-1.2 2.2-3.0", 802);
        // an application within its own function
        lost("R0 F0 A0 E0", "0.0-1.1 1.0-2.1 2.0-1.2 2.2-3.0", 802);
        // a function around each: three wires for two of them
        lost("R0 F0 L0 L0 E0 E0", "0.0-1.1 1.0-2.0 2.1-3.0 3.1-1.2 2.2-4.0 3.2-5.0", 602);
        lost("R0 F0 L0 L0 L0 E0 E0 E0", "0.0-1.1 1.0-2.0 2.1-3.0 3.1-4.0 4.1-1.2 2.2-5.0 3.2-6.0 4.2-7.0", 402 + 133);
    }

    /** "Or behind more than 4000 WIRES": a walk without end is given up behind the 4001st. */
    private static void mostWires() {
        lost("R0 F0 C0", "0.0-1.1 1.0-2.1 2.0-1.2", 4001);
        lost("R0 F0 B0", "0.0-1.1 1.0-2.1 2.0-1.2", 4001);
        lost("R0 F0", "0.0-1.1 1.0-1.2", 4001);
        lost("R0 F200 C0", "0.0-1.1 1.0-2.1 2.0-1.2", 4001);
        // 4000 and 4001 of a program: see NetTest.mostWires
    }

    /** One walk leaves nothing to the next one: neither stacks, nor functions, nor parts. */
    private static void manyWalks() {
        Built[] nets = {Built.of("R0 F0 C0", "0.0-1.1 1.0-2.1 2.0-1.2"), Built.of("R0 F0 L0 E0", "0.0-1.1 1.0-2.0 2.1-1.2 2.2-3.0"),
            Built.of("R0 F0 F0 E0 E0 E0", "0.0-1.1 1.0-2.2 2.0-3.0 1.2-4.0 2.1-5.0"), Built.of("R0 B0 E0", "0.0-1.1 1.0-2.0"),
            Built.of("R0 A0 L0 E0", "0.0-1.1 1.0-2.0 1.2-3.0 2.1-2.2")};
        Built empty = Built.of("R0 C0 L0", "0.0-1.0 1.1-2.0 2.1-2.2");
        Built same = Built.of("R0 F0 L1 F0 F0 E0 E0 E0", "0.0-1.1 1.0-2.0 2.1-3.0 3.1-4.1 4.0-2.2 1.2-5.0 3.2-6.0 4.2-7.0");
        FanNet x = new FanNet();
        for (int i = 0; i < 80; i++) {
            nets[i % nets.length].in(x);
            Due.is("walk " + i, x.count(10), -1);
            (i % 2 == 0 ? empty : same).in(x);
            Due.is("parts behind walk " + i, x.count(10) + " " + x.count(23) + " " + Due.parts(x, 0, 2), i % 2 == 0 ? "2 3 1 2" : "2 5 1 2");
        }
        // a hundred functions of level 200 remember 20000 stacks a walk
        StringBuilder nodes = new StringBuilder("R0 F0 E0");
        StringBuilder wires = new StringBuilder("0.0-1.1 1.0-3.0 1.2-2.0");
        for (int i = 3; i < 103; i += 2) {
            nodes.append(" L200 L200");
            wires.append(" " + i + ".1-" + (i + 1) + ".0 " + (i + 1) + ".1-" + (i < 101 ? i + 2 + ".0" : "103.1"));
            wires.append(i < 101 ? " " + i + ".2-" + (i + 1) + ".2" : " 101.2-104.0 103.0-102.2 103.2-105.0");
        }
        Built deep = Built.of(nodes + " F200 E0 E0", wires.toString());
        for (int i = 0; i < 12; i++) {
            deep.in(x);
            Due.is("deep walk " + i, x.count(10) + " " + x.part(0, 100), "101 2");
        }
    }
}
