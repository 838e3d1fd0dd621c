import java.util.NoSuchElementException;
import java.util.Random;
import java.util.TreeMap;

/** Random nets that mean nothing, put into an object and into the model: all that is promised of nets holds there too. */
public final class BuiltNetsTest {
    private static final TreeMap<String, Integer> seen = new TreeMap<>();

    public static void main(String[] args) {
        int runs = args.length > 0 ? Integer.parseInt(args[0]) : 1200;
        for (int seed = 1; seed <= runs; seed++) {
            run(seed);
        }
        for (String kind : new String[] {"step -2", "step -1", "step 0", "step 1", "step 2", "step 3", "step 4", "step 5", "read",
            "not read", "trial -2", "trial -1", "trial 0", "trial 1"}) {
            Due.is(kind + " was met", seen.getOrDefault(kind, 0) > 0, true);
        }
        if (args.length > 1) {
            seen.forEach((k, v) -> System.out.println(k + " " + v));
        }
        Due.end();
    }

    private static void run(int seed) {
        Random random = new Random(seed * 7919L);
        Built net = Built.random(random, seed % 3 == 0 ? 40 : 9);
        if (seed % 5 == 0) {
            net = net.padded(390 + random.nextInt(11));
        }
        FanNet x = net.in();
        Model m = net.inModel();
        String log = net.kinds.length > 60 ? "seed " + seed : net.toString();
        for (int i = 0; i < 12; i++) {
            hold(log, x, m);
            int way = random.nextInt(3);
            if (random.nextInt(3) == 0) {
                log += " trial(" + way + ")";
                trial(log, x, m, way);
            }
            int n = random.nextInt(4);
            log += " run(" + way + ", " + n + ")";
            Due.is(log, x.run(way, n), m.run(way, n));
            int kind = x.step(way);
            seen.merge("step " + kind, 1, Integer::sum);
            log += " step(" + way + ")";
            Due.is(log, kind, m.step(way));
        }
        hold(log, x, m);
    }

    private static void trial(String log, FanNet x, Model m, int way) {
        for (int what = 0; what < 4; what++) {
            Due.is(log + " what " + what, x.trial(way, what), m.trial(way, what));
        }
        seen.merge("trial " + x.trial(way, 3), 1, Integer::sum);
    }

    private static void hold(String log, FanNet x, Model m) {
        for (int c = 0; c < 24; c++) {
            Due.is(log + " count(" + c + ")", x.count(c), m.count(c));
        }
        for (int what = 0; what < 3; what++) {
            Due.is(log + " wanted(" + what + ")", x.wanted(what), m.wanted(what));
        }
        Due.is(log + " the net", nodes(x), nodes(m));
        Due.is(log + " active wires", Due.actives(x), actives(m));
        seen.merge(x.count(10) < 0 ? "not read" : "read", 1, Integer::sum);
        if (x.count(10) > 0) {
            Due.is(log + " say(0)", x.say(0), m.say(0));
            Due.is(log + " said", Due.said(x, 0), m.saidText);
        }
    }

    private static String nodes(FanNet x) {
        StringBuilder out = new StringBuilder();
        for (int n = 0; n < 400; n++) {
            try {
                x.node(n, 0);
            } catch (NoSuchElementException e) {
                continue;
            }
            for (int what = 0; what < 5; what++) {
                out.append(' ').append(x.node(n, what));
            }
        }
        return out.toString();
    }

    private static String nodes(Model m) {
        StringBuilder out = new StringBuilder();
        for (int n : m.web.nodes.keySet()) {
            for (int what = 0; what < 5; what++) {
                out.append(' ').append(m.node(n, what));
            }
        }
        return out.toString();
    }

    private static String actives(Model m) {
        StringBuilder out = new StringBuilder();
        for (int i = 0; i < m.count(1); i++) {
            out.append(i > 0 ? "; " : "").append(m.active(i, 0)).append('-').append(m.active(i, 1)).append(':').append(m.active(i, 2));
        }
        return out.toString();
    }
}
