import java.util.ArrayList;
import java.util.IdentityHashMap;
import java.util.List;
import java.util.Random;

/** Steps never change what a net means: what is read on the way, worked off, is what the program comes to. */
public final class ReadingTest {
    private static int held = 0;

    public static void main(String[] args) {
        for (String text : Programs.WRITTEN) {
            for (int way = 0; way < 4; way++) {
                hold(text, way);
            }
        }
        int more = args.length > 0 ? Integer.parseInt(args[0]) : 150;
        for (int seed = 1; seed <= more; seed++) {
            hold(new Programs(seed * 17L).sound(), seed % 4);
        }
        Due.is("many readings were held", held > 1000, true);
        System.out.println(held + " readings");
        Due.end();
    }

    private static List<Integer> parts(FanNet x, int which, int n) {
        List<Integer> out = new ArrayList<>();
        for (int i = 0; i < n; i++) {
            out.add(x.part(which, i));
        }
        return out;
    }

    private static int at;

    private static Model.Term term(List<Integer> parts, List<Model.Term> around) {
        int sort = parts.get(at++);
        if (sort == 0) {
            Model.Term left = term(parts, around);
            return new Model.Term(0, left, term(parts, around), null);
        }
        if (sort == 1) {
            Model.Term made = new Model.Term(1, null, null, null);
            List<Model.Term> inner = new ArrayList<>(around);
            inner.add(made);
            made.left = term(parts, inner);
            return made;
        }
        return new Model.Term(2, null, null, around.get(around.size() - 1 - (sort - 2)));
    }

    /** Null, if it takes too long. */
    private static List<Integer> workedOff(List<Integer> parts) {
        at = 0;
        Model.Term t = term(parts, new ArrayList<>());
        for (int round = 0; round < 400; round++) {
            Model.Term redex = Model.firstRedex(t);
            if (redex == null) {
                return Model.parts(t);
            }
            t = Model.replace(t, redex, Model.substitute(redex.left.left, redex.left, redex.right));
            if (Model.size(t, new IdentityHashMap<>()) > 3000) {
                return null;
            }
        }
        return null;
    }

    private static void hold(String text, int wayOrAll) {
        FanNet x = new FanNet();
        if (Due.tell(x, text) != 0 || x.count(12) < 0) {
            return;
        }
        List<Integer> due = parts(x, 1, x.count(13));
        Random random = new Random(text.hashCode());
        List<Integer> last = null;
        for (int i = 0; i < 260; i++) {
            int way = wayOrAll == 3 ? random.nextInt(3) : wayOrAll;
            if (x.step(way) <= 0 && wayOrAll < 3) {
                return;
            }
            int n = x.count(10);
            List<Integer> now = n < 0 ? null : parts(x, 0, n);
            if (now != null && !now.equals(last)) {
                last = now;
                List<Integer> got = workedOff(now);
                if (got != null) {
                    held++;
                    Due.is(text + " by " + wayOrAll + " behind " + (i + 1), got.toString(), due.toString());
                }
            }
        }
    }
}
