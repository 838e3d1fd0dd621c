import java.util.ArrayList;
import java.util.List;

/** Every call's last number that is taken and first one that is refused; a refused call changes nothing. */
public final class CallEdgesTest {
    private static final int LEAST = Integer.MIN_VALUE;
    private static final int MOST = Integer.MAX_VALUE;
    private static final int[] FAR = {LEAST, LEAST + 1, -1000, 1000, 1 << 30, MOST - 1, MOST};

    public static void main(String[] args) {
        taken();
        refused();
        behindThat();
        Due.end();
    }

    private static FanNet some() {
        FanNet x = Due.told("(\\x.x x)(\\y.y)");
        x.run(0, 2);
        x.say(1);
        Due.tell(x, "1 ?");
        x.feed(1, 2, 3, 4, 5);
        return x;
    }

    private static String state(FanNet x) {
        return Due.net(x) + " " + Due.counts(x) + " " + Due.actives(x) + " " + x.fault() + " " + x.said(0) + x.said(3) + x.said(4);
    }

    /** Both ends of what each call takes. */
    private static void taken() {
        FanNet x = some();
        Due.is("count(0), count(23)", x.count(0) + " " + x.count(23), "10 14");
        Due.is("node(0, 0), node(9, 4), node(8, 4)", x.node(0, 0) + " " + x.node(9, 4) + " " + x.node(8, 4), "0 -1 10");
        Due.is("active(0, 0), active(2, 2)", x.active(0, 0) + " " + x.active(2, 2), "1 3");
        Due.is("wanted(0), wanted(2)", x.wanted(0) + " " + x.wanted(2), "1 3");
        Due.is("part(0, 0), part(2, 6)", x.part(0, 0) + " " + x.part(2, 6), "0 2");
        Due.is("say(0), say(2)", x.say(0) + " " + x.say(2), "13 15");
        Due.is("plain(0), plain(200)", x.plain(0) + " " + x.plain(200), "7 2");
        Due.is("redexes(0), redexes(2)", x.redexes(0) + " " + x.redexes(2), "1 1");
        Due.is("same(0, 0), same(2, 2)", x.same(0, 0) + " " + x.same(2, 2), "true true");
        Due.is("trial(0, 0), trial(2, 3)", x.trial(0, 0) + " " + x.trial(2, 3), "15 0");
        Due.is("run(0, 0), run(2, 60)", x.run(0, 0) + " " + x.run(2, 60), "0 15");
        Due.is("step(0), step(2)", x.step(0) + " " + x.step(2), "0 0");
        Due.is("tell(20)", x.tell(20), 1);
        Due.is("tell(0)", x.tell(0), 1);
    }

    private static void refuse(List<String> all, FanNet x, String what, Due.Call call, String due) {
        String before = state(x);
        Due.is(what, call, due);
        Due.is("nothing changes by " + what, state(x), before);
        all.add(what);
    }

    private static void refused() {
        FanNet x = some();
        List<String> all = new ArrayList<>();
        for (int k : with(-1, 3)) {
            refuse(all, x, "step(" + k + ")", () -> x.step(k), Due.IAE);
            refuse(all, x, "run(" + k + ", 0)", () -> x.run(k, 0), Due.IAE);
            refuse(all, x, "run(" + k + ", 60)", () -> x.run(k, 60), Due.IAE);
            refuse(all, x, "trial(" + k + ", 0)", () -> x.trial(k, 0), Due.IAE);
            refuse(all, x, "wanted(" + k + ")", () -> x.wanted(k), Due.NSE);
            refuse(all, x, "active(0, " + k + ")", () -> x.active(0, k), Due.NSE);
            refuse(all, x, "active(" + k + ", 0)", () -> x.active(k, 0), Due.NSE);
            refuse(all, x, "part(" + k + ", 0)", () -> x.part(k, 0), Due.NSE);
            refuse(all, x, "say(" + k + ")", () -> x.say(k), Due.IAE);
            refuse(all, x, "same(" + k + ", 0)", () -> x.same(k, 0) ? 1 : 0, Due.IAE);
            refuse(all, x, "same(0, " + k + ")", () -> x.same(0, k) ? 1 : 0, Due.IAE);
            refuse(all, x, "redexes(" + k + ")", () -> x.redexes(k), Due.IAE);
        }
        for (int k : with(-1, 61)) {
            refuse(all, x, "run(0, " + k + ")", () -> x.run(0, k), Due.IAE);
        }
        for (int k : with(-1, 201)) {
            refuse(all, x, "plain(" + k + ")", () -> x.plain(k), Due.IAE);
        }
        for (int k : with(-1, 24)) {
            refuse(all, x, "count(" + k + ")", () -> x.count(k), Due.NSE);
        }
        for (int k : with(-1, 10)) {
            refuse(all, x, "node(" + k + ", 0)", () -> x.node(k, 0), Due.NSE);
        }
        for (int k : with(-1, 5)) {
            refuse(all, x, "node(0, " + k + ")", () -> x.node(0, k), Due.NSE);
        }
        for (int k : with(-1, 4)) {
            refuse(all, x, "trial(0, " + k + ")", () -> x.trial(0, k), Due.NSE);
        }
        for (int k : with(-1, 7)) {
            refuse(all, x, "part(2, " + k + ")", () -> x.part(2, k), Due.NSE);
        }
        for (int k : with(-1, 21)) {
            refuse(all, x, "tell(" + k + ")", () -> x.tell(k), Due.IAE);
        }
        for (int k : with(-1, 4)) {
            Due.is("said(" + k + ")", x.said(k), -1);
        }
        Due.is("all were refused", all.size(), 12 * 9 + 8 * 9);
    }

    private static int[] with(int low, int high) {
        int[] out = new int[FAR.length + 2];
        System.arraycopy(FAR, 0, out, 0, FAR.length);
        out[FAR.length] = low;
        out[FAR.length + 1] = high;
        return out;
    }

    /** "NoSuchElementException (behind that)": where both could be told, the other one is. */
    private static void behindThat() {
        FanNet x = Due.told("(\\x.x x)(\\x.x x)");
        Due.is("there is no plain term", x.say(1), -1);
        Due.is("same(1, 3)", () -> x.same(1, 3) ? 1 : 0, Due.IAE);
        Due.is("same(3, 1)", () -> x.same(3, 1) ? 1 : 0, Due.IAE);
        Due.is("same(-1, 1)", () -> x.same(-1, 1) ? 1 : 0, Due.IAE);
        Due.is("same(1, 2)", () -> x.same(1, 2) ? 1 : 0, Due.NSE);
        Due.is("redexes(1)", () -> x.redexes(1), Due.NSE);
        Due.is("redexes(3)", () -> x.redexes(3), Due.IAE);
        Due.is("trial(3, 4)", () -> x.trial(3, 4), Due.IAE);
        Due.is("trial(-1, -1)", () -> x.trial(-1, -1), Due.IAE);
        Due.is("trial(2, 4)", () -> x.trial(2, 4), Due.NSE);
        // by one name either way
        Due.is("run(3, 61)", () -> x.run(3, 61), Due.IAE);
        Due.is("node(400, 5)", () -> x.node(400, 5), Due.NSE);
        Due.is("active(9, 9)", () -> x.active(9, 9), Due.NSE);
        Due.is("part(3, -1)", () -> x.part(3, -1), Due.NSE);
    }
}
