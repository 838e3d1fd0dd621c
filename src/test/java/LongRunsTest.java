import java.util.Random;

/** Long runs by each way, as far as 480 calls go, the whole net held against the model's now and then. */
public final class LongRunsTest {
    private static int wrong = 0;

    public static void main(String[] args) {
        for (String text : Programs.WRITTEN) {
            for (int way = 0; way < 4; way++) {
                run(text, way);
            }
        }
        int more = args.length > 0 ? Integer.parseInt(args[0]) : 60;
        for (int seed = 1; seed <= more; seed++) {
            run(new Programs(seed * 31L).sound(), seed % 4);
        }
        System.out.println(wrong == 0 ? "all answers are as the model's" : wrong + " answers are not as the model's");
        if (wrong != 0) {
            System.exit(1);
        }
    }

    private static void hold(String what, long got, long due) {
        if (got != due) {
            wrong++;
            System.out.println(what + " answered " + got + ", the model " + due);
        }
    }

    /** Way 3: now this way, now that one. */
    private static void run(String text, int wayOrAll) {
        FanNet x = new FanNet();
        Model m = new Model();
        m.tape.append(text);
        Due.feed(x, text);
        hold("tell of " + text, x.tell(text.length()), m.tell(text.length()));
        Random random = new Random(text.hashCode() + wayOrAll);
        int done = 0;
        for (int i = 0; i < 40 && wrong < 10; i++) {
            int way = wayOrAll == 3 ? random.nextInt(3) : wayOrAll;
            int n = i < 10 ? 1 + random.nextInt(5) : 20 + random.nextInt(41);
            int now = x.run(way, n);
            done += now;
            String what = text + " by " + wayOrAll + " behind " + done + ": ";
            hold(what + "run", now, m.run(way, n));
            for (int c = 0; c < 24; c++) {
                if (c != 12 && c != 13 || i == 0) {
                    hold(what + "count(" + c + ")", x.count(c), m.count(c));
                }
            }
            Model.Reading r = new Model.Reading(m.web);
            hold(what + "wanted(0)", x.wanted(0), r.wantedA == null ? -1 : r.wantedA.id);
            hold(what + "wanted(2)", x.wanted(2), r.wantedWires);
            for (Model.Node node : m.web.nodes.values()) {
                for (int w = 0; w < 5; w++) {
                    hold(what + "node(" + node.id + ", " + w + ")", x.node(node.id, w), m.node(node.id, w));
                }
            }
            if (now < n) {
                hold(what + "the end", x.step(way), m.step(way));
                if (wayOrAll < 3) {
                    return;
                }
            }
        }
    }
}
