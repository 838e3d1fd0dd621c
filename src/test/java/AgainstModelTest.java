import java.util.ArrayList;
import java.util.List;
import java.util.NoSuchElementException;
import java.util.Random;
import java.util.TreeMap;

/** Random runs of calls, each answered by FanNet and by the model: the answers must be the same. */
public final class AgainstModelTest {
    interface Call {
        long answer();
    }

    private static int wrong = 0;
    private static final TreeMap<String, Integer> seen = new TreeMap<>();

    static String of(Call call) {
        try {
            return "" + call.answer();
        } catch (IllegalArgumentException e) {
            return "throws.IllegalArgumentException";
        } catch (NoSuchElementException e) {
            return "throws.NoSuchElementException";
        }
    }

    public static void main(String[] args) {
        int runs = args.length > 0 ? Integer.parseInt(args[0]) : 250;
        int first = args.length > 1 ? Integer.parseInt(args[1]) : 1;
        for (int seed = first; seed < first + runs && wrong < 10; seed++) {
            new Run(seed).go();
        }
        if (args.length > 2) {
            seen.forEach((k, v) -> System.out.println(k + " " + v));
        }
        System.out.println(wrong == 0 ? "all answers are as the model's" : wrong + " answers are not as the model's");
        if (wrong != 0) {
            System.exit(1);
        }
    }

    private static final class Run {
        final int seed;
        final Random random;
        final Programs programs;
        final FanNet x = new FanNet();
        final Model m = new Model();
        final List<String> log = new ArrayList<>();
        boolean failed = false;
        int calls = 0;

        Run(int seed) {
            this.seed = seed;
            random = new Random(seed * 7919L);
            programs = new Programs(seed * 104729L);
        }

        void hold(String call, Call mine, Call due) {
            if (failed) {
                return;
            }
            calls++;
            String got = of(mine);
            String want = of(due);
            log.add(call + " = " + want);
            if (call.startsWith("step") || call.startsWith("tell")) {
                seen.merge(call.substring(0, 4) + " " + want, 1, Integer::sum);
            }
            if (call.startsWith("trial") && call.endsWith(" 3)")) {
                seen.merge(call + " " + want, 1, Integer::sum);
            }
            if (call.equals("count(23)") && Integer.parseInt(want) > 4000) {
                seen.merge("count(23) above 4000", 1, Integer::sum);
            }
            if (call.equals("count(10)") && want.equals("-1")) {
                seen.merge("not read", 1, Integer::sum);
            }
            if (!got.equals(want)) {
                failed = true;
                wrong++;
                System.out.println("seed " + seed + ": " + call + " answered " + got + ", the model " + want);
                log.forEach(l -> System.out.println("    " + l));
            }
        }

        void go() {
            if (random.nextInt(4) > 0) {
                tell();
            }
            int n = 20 + random.nextInt(60);
            for (int i = 0; i < n && calls < 490; i++) {
                int what = random.nextInt(40);
                if (what == 0) {
                    tell();
                } else if (what == 1) {
                    hold("again()", () -> x.again(), () -> m.again());
                } else if (what < 14) {
                    work();
                } else {
                    ask(what);
                }
            }
        }

        void feed(String text) {
            for (int i = 0; i < text.length(); i += 20) {
                int[] w = new int[5];
                for (int j = 0; j < 20; j++) {
                    int c = i + j < text.length() ? text.charAt(i + j) : ' ';
                    w[j / 4] = w[j / 4] << 8 | c;
                }
                hold("feed(..)", () -> x.feed(w[0], w[1], w[2], w[3], w[4]), () -> m.feed(w[0], w[1], w[2], w[3], w[4]));
            }
        }

        void tell() {
            String text = programs.any();
            log.add("text " + text);
            feed(text);
            int n = random.nextInt(20) == 0 ? random.nextInt(800) - 20 : text.length();
            hold("tell(" + n + ")", () -> x.tell(n), () -> m.tell(n));
            hold("fault()", () -> x.fault(), () -> m.fault());
        }

        void work() {
            int way = random.nextInt(30) == 0 ? random.nextInt(6) - 2 : random.nextInt(3);
            if (random.nextInt(3) > 0) {
                hold("step(" + way + ")", () -> x.step(way), () -> m.step(way));
            } else {
                int n = random.nextInt(random.nextInt(3) == 0 ? 65 : 12) - 1;
                hold("run(" + way + ", " + n + ")", () -> x.run(way, n), () -> m.run(way, n));
            }
        }

        void ask(int what) {
            int few = random.nextInt(5) - 1;
            int which = random.nextInt(4) == 0 ? random.nextInt(5) - 1 : random.nextInt(3);
            int i = random.nextInt(random.nextInt(2) == 0 ? 8 : 60) - 1;
            if (what < 22) {
                int c = random.nextInt(26) - 1;
                hold("count(" + c + ")", () -> x.count(c), () -> m.count(c));
            } else if (what < 26) {
                int w = random.nextInt(7) - 1;
                hold("node(" + i + ", " + w + ")", () -> x.node(i, w), () -> m.node(i, w));
            } else if (what < 28) {
                int a = random.nextInt(5) - 1;
                hold("active(" + a + ", " + few + ")", () -> x.active(a, few), () -> m.active(a, few));
            } else if (what < 30) {
                hold("wanted(" + few + ")", () -> x.wanted(few), () -> m.wanted(few));
            } else if (what < 32) {
                hold("part(" + which + ", " + i + ")", () -> x.part(which, i), () -> m.part(which, i));
            } else if (what == 32) {
                hold("say(" + which + ")", () -> x.say(which), () -> m.say(which));
            } else if (what == 33) {
                hold("said(" + i + ")", () -> x.said(i), () -> m.said(i));
            } else if (what == 34) {
                hold("same(" + which + ", " + few + ")", () -> x.same(which, few) ? 1 : 0, () -> m.same(which, few) ? 1 : 0);
            } else if (what == 35) {
                int n = random.nextInt(3) == 0 ? random.nextInt(204) - 1 : random.nextInt(9);
                hold("plain(" + n + ")", () -> x.plain(n), () -> m.plain(n));
            } else if (what == 36) {
                hold("redexes(" + which + ")", () -> x.redexes(which), () -> m.redexes(which));
            } else if (what == 37) {
                int way = random.nextInt(8) == 0 ? random.nextInt(6) - 2 : random.nextInt(3);
                hold("trial(" + way + ", " + few + ")", () -> x.trial(way, few), () -> m.trial(way, few));
            } else if (what == 38) {
                feed("                    ");
            } else {
                whole();
            }
        }

        /** All of the state at once. */
        void whole() {
            for (int c = 0; c < 24; c++) {
                int k = c;
                hold("count(" + k + ")", () -> x.count(k), () -> m.count(k));
            }
            for (int n = 0; n < 400 && calls < 400; n += 1 + n / 20) {
                int k = n;
                int w = random.nextInt(5);
                hold("node(" + k + ", " + w + ")", () -> x.node(k, w), () -> m.node(k, w));
            }
            int which = random.nextInt(3);
            hold("say(" + which + ")", () -> x.say(which), () -> m.say(which));
            for (int s = 0; s < 40 && calls < 440; s += 1 + random.nextInt(8)) {
                int k = s;
                hold("said(" + k + ")", () -> x.said(k), () -> m.said(k));
            }
        }
    }
}
