import java.lang.reflect.Field;
import java.lang.reflect.Method;
import java.util.ArrayList;
import java.util.Collections;
import java.util.List;
import java.util.Random;

/**
 * Nets that no text is laid as: no program is known that comes to a JAM, or loses one but by the bounds of a walk, so
 * these are put into an object from behind. It is the one place of the tests that knows how FanNet holds its net.
 */
final class Built {
    static final String KINDS = "RLAFBCE";

    final int[] kinds;
    final int[] levels;
    /** For each port, 4 times the node and the port, its other end. */
    final int[] wires;

    private Built(int nodes) {
        kinds = new int[nodes];
        levels = new int[nodes];
        wires = new int[4 * nodes];
        java.util.Arrays.fill(wires, -1);
    }

    /** Nodes as "R0 L0 C2" (kind and level, numbered from 0 on), wires as "0.0-1.0 1.1-2.1". */
    static Built of(String nodes, String wires) {
        String[] each = nodes.split(" ");
        Built out = new Built(each.length);
        for (int i = 0; i < each.length; i++) {
            out.kinds[i] = KINDS.indexOf(each[i].charAt(0));
            out.levels[i] = Integer.parseInt(each[i].substring(1));
        }
        for (String wire : wires.split(" ")) {
            String[] ends = wire.split("-");
            out.wire(port(ends[0]), port(ends[1]));
        }
        out.check();
        return out;
    }

    private static int port(String end) {
        int point = end.indexOf('.');
        return 4 * Integer.parseInt(end.substring(0, point)) + Integer.parseInt(end.substring(point + 1));
    }

    /** Any nodes, wired anyhow; levels lie close together, so that all kinds of steps are met. */
    static Built random(Random random, int most) {
        while (true) {
            Built out = new Built(2 + random.nextInt(most - 1));
            int levels = 1 + random.nextInt(4);
            // now and then no LAM and no APP, which soon come to a JAM
            int least = random.nextInt(3) == 0 ? 3 : 1;
            List<Integer> ports = new ArrayList<>();
            for (int i = 0; i < out.kinds.length; i++) {
                out.kinds[i] = i == 0 ? 0 : least + random.nextInt(7 - least);
                out.levels[i] = i == 0 || out.kinds[i] == 6 ? 0 : random.nextInt(levels);
                for (int p = 0; p < Model.PORTS[out.kinds[i]]; p++) {
                    ports.add(4 * i + p);
                }
            }
            if (ports.size() % 2 == 0) {
                Collections.shuffle(ports, random);
                for (int i = 0; i < ports.size(); i += 2) {
                    out.wire(ports.get(i), ports.get(i + 1));
                }
                return out;
            }
        }
    }

    /** As many nodes more, each of them a CURL whose ports are wired to each other: none of them is ever met. */
    Built padded(int nodes) {
        Built out = new Built(nodes);
        System.arraycopy(kinds, 0, out.kinds, 0, kinds.length);
        System.arraycopy(levels, 0, out.levels, 0, kinds.length);
        System.arraycopy(wires, 0, out.wires, 0, wires.length);
        for (int i = kinds.length; i < nodes; i++) {
            out.kinds[i] = 5;
            out.wire(4 * i, 4 * i + 1);
        }
        return out;
    }

    private void wire(int one, int other) {
        wires[one] = other;
        wires[other] = one;
    }

    private void check() {
        for (int i = 0; i < wires.length; i++) {
            if (wires[i] >= 0 != i % 4 < Model.PORTS[kinds[i / 4]] || wires[i] >= 0 && wires[wires[i]] != i) {
                throw new IllegalStateException("port " + i / 4 + "." + i % 4 + " is not wired as it should be");
            }
        }
    }

    FanNet in(FanNet x) {
        try {
            Object net = field(x, "net").get(x);
            method(net, "clear").invoke(net);
            Method make = method(net, "make", int.class, int.class);
            Method link = method(net, "link", int.class, int.class);
            for (int i = 0; i < kinds.length; i++) {
                make.invoke(net, kinds[i], levels[i]);
            }
            for (int i = 0; i < wires.length; i++) {
                if (wires[i] > i) {
                    link.invoke(net, i, wires[i]);
                }
            }
            method(x, "beginAnew").invoke(x);
        } catch (ReflectiveOperationException e) {
            throw new IllegalStateException("FanNet holds its net in another way: mend Built", e);
        }
        return x;
    }

    FanNet in() {
        return in(new FanNet());
    }

    Model inModel() {
        Model m = new Model();
        Model.Web web = new Model.Web();
        List<Model.Node> nodes = new ArrayList<>();
        for (int i = 0; i < kinds.length; i++) {
            nodes.add(web.make(kinds[i], levels[i]));
        }
        for (int i = 0; i < wires.length; i++) {
            if (wires[i] > i) {
                Model.wire(nodes.get(i / 4).ports[i % 4], nodes.get(wires[i] / 4).ports[wires[i] % 4]);
            }
        }
        m.begin(web);
        return m;
    }

    @Override
    public String toString() {
        StringBuilder out = new StringBuilder();
        for (int i = 0; i < kinds.length; i++) {
            out.append(i > 0 ? " " : "").append(KINDS.charAt(kinds[i])).append(levels[i]);
        }
        for (int i = 0; i < wires.length; i++) {
            if (wires[i] > i) {
                out.append(' ').append(i / 4).append('.').append(i % 4).append('-');
                out.append(wires[i] / 4).append('.').append(wires[i] % 4);
            }
        }
        return out.toString();
    }

    private static Field field(Object of, String name) throws ReflectiveOperationException {
        Field f = of.getClass().getDeclaredField(name);
        f.setAccessible(true);
        return f;
    }

    private static Method method(Object of, String name, Class<?>... arguments) throws ReflectiveOperationException {
        Method m = of.getClass().getDeclaredMethod(name, arguments);
        m.setAccessible(true);
        return m;
    }
}
