import java.util.NoSuchElementException;

/** What tests share: texts are fed and told, answers are held against what is due. */
final class Due {
    static final String IAE = "throws.IllegalArgumentException";
    static final String NSE = "throws.NoSuchElementException";

    interface Call {
        long answer();
    }

    private static int wrong = 0;

    static String of(Call call) {
        try {
            return Long.toString(call.answer());
        } catch (RuntimeException e) {
            return "throws." + e.getClass().getSimpleName();
        }
    }

    static void is(String what, String got, String due) {
        if (!got.equals(due)) {
            wrong++;
            System.out.println(what + " answered " + got + ", due is " + due);
        }
    }

    static void is(String what, long got, long due) {
        is(what, Long.toString(got), Long.toString(due));
    }

    static void is(String what, boolean got, boolean due) {
        is(what, Boolean.toString(got), Boolean.toString(due));
    }

    static void is(String what, Call call, String due) {
        is(what, of(call), due);
    }

    static void feed(FanNet x, String text) {
        for (int i = 0; i < text.length(); i += 20) {
            int[] w = new int[5];
            for (int j = 0; j < 20; j++) {
                int c = i + j < text.length() ? text.charAt(i + j) : ' ';
                w[j / 4] = w[j / 4] << 8 | c;
            }
            x.feed(w[0], w[1], w[2], w[3], w[4]);
        }
    }

    static int tell(FanNet x, String text) {
        feed(x, text);
        return x.tell(text.length());
    }

    static FanNet told(String text) {
        FanNet x = new FanNet();
        is("tell of " + text, tell(x, text), 0);
        return x;
    }

    static String said(FanNet x, int which) {
        int n = x.say(which);
        StringBuilder out = new StringBuilder();
        for (int i = 0; i < n; i++) {
            out.append((char) x.said(i));
        }
        return n < 0 ? "none" : out.toString();
    }

    static String parts(FanNet x, int which, int n) {
        StringBuilder out = new StringBuilder();
        for (int i = 0; i < n; i++) {
            out.append(i > 0 ? " " : "").append(x.part(which, i));
        }
        return out.toString();
    }

    /** Kind, level and wires of every node, those of a port that is not there left out. */
    static String net(FanNet x) {
        StringBuilder out = new StringBuilder();
        int left = x.count(0);
        for (int n = 0; n < 400 && left > 0; n++) {
            try {
                x.node(n, 0);
            } catch (NoSuchElementException e) {
                continue;
            }
            left--;
            out.append(out.length() > 0 ? "; " : "").append(n).append(':');
            for (int w = 0; w < 5; w++) {
                int v = x.node(n, w);
                out.append(v == FanNet.NONE ? "" : (w > 0 ? "," : "") + v);
            }
        }
        return out.toString();
    }

    static String actives(FanNet x) {
        StringBuilder out = new StringBuilder();
        for (int i = 0; i < x.count(1); i++) {
            out.append(i > 0 ? "; " : "").append(x.active(i, 0)).append('-').append(x.active(i, 1)).append(':').append(x.active(i, 2));
        }
        return out.toString();
    }

    static String counts(FanNet x) {
        StringBuilder out = new StringBuilder();
        for (int i = 0; i < 24; i++) {
            out.append(i > 0 ? " " : "").append(x.count(i));
        }
        return out.toString();
    }

    static void end() {
        System.out.println(wrong == 0 ? "all answers are as due" : wrong + " answers are not as due");
        if (wrong != 0) {
            System.exit(1);
        }
    }
}
