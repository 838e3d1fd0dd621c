import java.util.ArrayList;
import java.util.HashMap;
import java.util.IdentityHashMap;
import java.util.LinkedHashMap;
import java.util.List;
import java.util.Map;
import java.util.NoSuchElementException;
import java.util.TreeMap;

/**
 * The document once more, written as plainly as can be and in another way than FanNet: terms are
 * trees with pointers to their functions, stacks are lists of lists, nodes are objects, all goes by
 * recursion, nothing is kept from call to call but the state itself.
 */
final class Model {
    static final class Fault extends RuntimeException {
        private static final long serialVersionUID = 1L;
        final int kind;
        final int place;

        Fault(int kind, int place) {
            this.kind = kind;
            this.place = place;
        }
    }

    static final class Lost extends RuntimeException {
        private static final long serialVersionUID = 1L;
    }

    // ---- terms ----
    static final class Term {
        final int sort; // 0 application, 1 function, 2 variable, 3 a name put in later
        Term left;
        Term right;
        Term own;

        Term(int sort, Term left, Term right, Term own) {
            this.sort = sort;
            this.left = left;
            this.right = right;
            this.own = own;
        }
    }

    static Term copy(Term t, Map<Term, Term> put) {
        switch (t.sort) {
            case 0:
                return new Term(0, copy(t.left, put), copy(t.right, put), null);
            case 1: {
                Term made = new Term(1, null, null, null);
                put.put(t, new Term(2, null, null, made));
                made.left = copy(t.left, put);
                return made;
            }
            default: {
                Term there = put.get(t.own);
                return there == null ? new Term(2, null, null, t.own) : copy(there, new IdentityHashMap<>());
            }
        }
    }

    static List<Integer> parts(Term t) {
        List<Integer> out = new ArrayList<>();
        parts(t, new ArrayList<>(), out);
        return out;
    }

    static void parts(Term t, List<Term> around, List<Integer> out) {
        if (t.sort == 0) {
            out.add(0);
            parts(t.left, around, out);
            parts(t.right, around, out);
        } else if (t.sort == 1) {
            out.add(1);
            List<Term> inner = new ArrayList<>(around);
            inner.add(t);
            parts(t.left, inner, out);
        } else {
            int between = 0;
            for (int i = around.size() - 1; around.get(i) != t.own; i--) {
                between++;
            }
            out.add(2 + between);
        }
    }

    static long size(Term t, Map<Term, Long> known) {
        Long k = known.get(t);
        if (k != null) {
            return k;
        }
        long n = t.sort == 0 ? 1 + size(t.left, known) + size(t.right, known)
            : t.sort == 1 ? 1 + size(t.left, known) : t.sort == 3 ? size(t.own, known) : 1;
        n = Math.min(n, 1000000000L);
        known.put(t, n);
        return n;
    }

    /** Names put in: every name's term anew. */
    static Term whole(Term t, Map<Term, Term> put) {
        switch (t.sort) {
            case 0:
                return new Term(0, whole(t.left, put), whole(t.right, put), null);
            case 1: {
                Term made = new Term(1, null, null, null);
                put.put(t, made);
                made.left = whole(t.left, put);
                return made;
            }
            case 3:
                return whole(t.own, new IdentityHashMap<>());
            default:
                return new Term(2, null, null, put.get(t.own));
        }
    }

    static boolean isRedex(Term t) {
        return t.sort == 0 && t.left.sort == 1;
    }

    static Term firstRedex(Term t) {
        if (t.sort == 2) {
            return null;
        }
        if (isRedex(t)) {
            return t;
        }
        Term l = firstRedex(t.left);
        return l != null || t.sort == 1 ? l : firstRedex(t.right);
    }

    static Term replace(Term t, Term what, Term by) {
        if (t == what) {
            return by;
        }
        if (t.sort != 2) {
            t.left = replace(t.left, what, by);
            if (t.sort == 0) {
                t.right = replace(t.right, what, by);
            }
        }
        return t;
    }

    static Term substitute(Term t, Term function, Term argument) {
        if (t.sort == 2) {
            return t.own == function ? copy(argument, new IdentityHashMap<>()) : t;
        }
        t.left = substitute(t.left, function, argument);
        if (t.sort == 0) {
            t.right = substitute(t.right, function, argument);
        }
        return t;
    }

    static int redexesOf(Term t) {
        return t.sort == 2 ? 0 : (isRedex(t) ? 1 : 0) + redexesOf(t.left) + (t.sort == 0 ? redexesOf(t.right) : 0);
    }

    static String tellTerm(Term t, List<Term> around) {
        if (t.sort == 1) {
            List<Term> inner = new ArrayList<>(around);
            inner.add(t);
            return "\\" + (char) ('a' + around.size() % 26) + "." + tellTerm(t.left, inner);
        }
        if (t.sort == 2) {
            return "" + (char) ('a' + around.indexOf(t.own) % 26);
        }
        String f = tellTerm(t.left, around);
        String a = tellTerm(t.right, around);
        return (t.left.sort == 1 ? "(" + f + ")" : f) + " " + (t.right.sort != 2 ? "(" + a + ")" : a);
    }

    // ---- the text ----
    private static final class Parser {
        final String text;
        final List<String> tokens = new ArrayList<>();
        final List<Integer> places = new ArrayList<>();
        int at = 0;
        final LinkedHashMap<String, Term> told = new LinkedHashMap<>();
        final List<String> names = new ArrayList<>();
        final List<Term> functions = new ArrayList<>();
        int open = 0;

        Parser(String text) {
            this.text = text;
            int i = 0;
            while (i < text.length()) {
                char c = text.charAt(i);
                int j = i + 1;
                if (c >= 'a' && c <= 'z') {
                    while (j < text.length() && text.charAt(j) >= 'a' && text.charAt(j) <= 'z') {
                        j++;
                    }
                } else if (c >= '0' && c <= '9') {
                    while (j < text.length() && text.charAt(j) >= '0' && text.charAt(j) <= '9') {
                        j++;
                    }
                }
                if (c != ' ' && c != '\n') {
                    tokens.add(text.substring(i, j));
                    places.add(i);
                }
                i = j;
            }
        }

        String look(int i) {
            return i < tokens.size() ? tokens.get(i) : "";
        }

        int place() {
            return at < tokens.size() ? places.get(at) : text.length();
        }

        static boolean word(String t) {
            return !t.isEmpty() && t.charAt(0) >= 'a' && t.charAt(0) <= 'z';
        }

        static boolean number(String t) {
            return !t.isEmpty() && t.charAt(0) >= '0' && t.charAt(0) <= '9';
        }

        Fault fault(int kind) {
            return new Fault(kind, place());
        }

        Term program() {
            while (word(look(at)) && look(at + 1).equals("=")) {
                String name = look(at);
                if (name.length() > 8 || told.size() == 12) {
                    throw fault(2);
                }
                if (told.containsKey(name)) {
                    throw fault(4);
                }
                at += 2;
                Term t = term();
                if (!look(at).equals(";")) {
                    throw fault(1);
                }
                at++;
                told.put(name, t);
            }
            Term t = term();
            if (at < tokens.size()) {
                throw fault(1);
            }
            return t;
        }

        Term term() {
            if (look(at).equals("\\")) {
                at++;
                if (!word(look(at))) {
                    throw fault(1);
                }
                return functions();
            }
            Term t = atom();
            while (word(look(at)) || number(look(at)) || look(at).equals("(")) {
                t = new Term(0, t, atom(), null);
            }
            return t;
        }

        Term functions() {
            if (word(look(at))) {
                if (look(at).length() > 8 || names.size() >= 30) {
                    throw fault(2);
                }
                Term made = new Term(1, null, null, null);
                names.add(look(at));
                functions.add(made);
                at++;
                made.left = functions();
                names.remove(names.size() - 1);
                functions.remove(functions.size() - 1);
                return made;
            }
            if (!look(at).equals(".")) {
                throw fault(1);
            }
            at++;
            return term();
        }

        Term atom() {
            String t = look(at);
            if (word(t)) {
                if (t.length() > 8) {
                    throw fault(2);
                }
                int i = names.lastIndexOf(t);
                if (i < 0 && !told.containsKey(t)) {
                    throw fault(3);
                }
                at++;
                return i >= 0 ? new Term(2, null, null, functions.get(i)) : new Term(3, null, null, told.get(t));
            }
            if (number(t)) {
                if (t.length() > 1) {
                    throw fault(2);
                }
                at++;
                Term s = new Term(1, null, null, null);
                Term z = new Term(1, null, null, null);
                s.left = z;
                Term body = new Term(2, null, null, z);
                for (int i = 0; i < t.charAt(0) - '0'; i++) {
                    body = new Term(0, new Term(2, null, null, s), body, null);
                }
                z.left = body;
                return s;
            }
            if (!t.equals("(")) {
                throw fault(1);
            }
            if (open == 12) {
                throw fault(2);
            }
            open++;
            at++;
            Term inner = term();
            if (!look(at).equals(")")) {
                throw fault(1);
            }
            at++;
            open--;
            return inner;
        }
    }

    // ---- the net ----
    static final int[] PORTS = {1, 3, 3, 3, 2, 2, 1};

    static final class Port {
        final Node node; // null: it was a node's that is gone
        final int number;
        Port other;

        Port(Node node, int number) {
            this.node = node;
            this.number = number;
        }
    }

    static final class Node {
        final int id;
        final int kind;
        final int level;
        final Port[] ports;

        Node(int id, int kind, int level) {
            this.id = id;
            this.kind = kind;
            this.level = level;
            ports = new Port[PORTS[kind]];
            for (int i = 0; i < ports.length; i++) {
                ports[i] = new Port(this, i);
            }
        }
    }

    static void wire(Port a, Port b) {
        a.other = b;
        b.other = a;
    }

    static final class Web {
        final TreeMap<Integer, Node> nodes = new TreeMap<>();
        int bound = 400;

        Node make(int kind, int level) {
            int id = 0;
            while (nodes.containsKey(id)) {
                id++;
            }
            if (id >= bound) {
                throw new Fault(5, 0);
            }
            Node n = new Node(id, kind, level);
            nodes.put(id, n);
            return n;
        }

        Web twin() {
            Web w = new Web();
            for (Node n : nodes.values()) {
                w.nodes.put(n.id, new Node(n.id, n.kind, n.level));
            }
            for (Node n : nodes.values()) {
                for (Port p : n.ports) {
                    w.nodes.get(n.id).ports[p.number].other = w.nodes.get(p.other.node.id).ports[p.other.number];
                }
            }
            return w;
        }

        /** Ends by function, the outermost first. */
        Port lay(Term t, int n, List<Term> around, Map<Term, Port> ends) {
            if (t.sort == 2) {
                Node curl = make(5, n);
                ends.put(t.own, curl.ports[0]);
                return curl.ports[1];
            }
            if (t.sort == 1) {
                Node lam = make(1, n);
                List<Term> inner = new ArrayList<>(around);
                inner.add(t);
                wire(lay(t.left, n, inner, ends), lam.ports[1]);
                Port end = ends.remove(t);
                wire(lam.ports[2], end == null ? make(6, 0).ports[0] : end);
                return lam.ports[0];
            }
            Node app = make(2, n);
            Map<Term, Port> argumentEnds = new IdentityHashMap<>();
            wire(lay(t.left, n, around, ends), app.ports[0]);
            wire(lay(t.right, n + 1, around, argumentEnds), app.ports[2]);
            for (Term v : around) {
                if (argumentEnds.containsKey(v)) {
                    Node bracket = make(4, n);
                    wire(bracket.ports[1], argumentEnds.get(v));
                    argumentEnds.put(v, bracket.ports[0]);
                }
            }
            for (Term v : around) {
                Port a = argumentEnds.get(v);
                Port f = ends.get(v);
                if (a != null && f != null) {
                    Node fan = make(3, n);
                    wire(fan.ports[1], f);
                    wire(fan.ports[2], a);
                    ends.put(v, fan.ports[0]);
                } else if (a != null) {
                    ends.put(v, a);
                }
            }
            return app.ports[1];
        }

        List<Node> activeOnes() {
            List<Node> out = new ArrayList<>();
            for (Node n : nodes.values()) {
                Port o = n.ports[0].other;
                if (n.kind != 0 && o.node.kind != 0 && o.number == 0 && o.node.id > n.id) {
                    out.add(n);
                }
            }
            return out;
        }

        static int kindOf(Node a, Node b) {
            if (a.kind == 6 || b.kind == 6) {
                return 5;
            }
            if (a.level == b.level) {
                if (a.kind == 1 && b.kind == 2 || a.kind == 2 && b.kind == 1) {
                    return 1;
                }
                return a.kind == b.kind && a.kind >= 3 && a.kind <= 5 ? 2 : -2;
            }
            Node lower = a.level < b.level ? a : b;
            return lower.kind == 3 ? 3 : lower.kind == 4 || lower.kind == 5 ? 4 : -2;
        }

        /** What is glued to a port of a node that is gone: a new head, or such a port of its mate. */
        int work(Node a, Node b) {
            int kind = kindOf(a, b);
            if (kind == -2) {
                return -2;
            }
            Web before = twin();
            int idA = a.id;
            int idB = b.id;
            nodes.remove(idA);
            nodes.remove(idB);
            bound = 1000;
            Map<Port, Port> glue = new IdentityHashMap<>();
            List<Node> fresh = new ArrayList<>();
            if (kind == 5) {
                Node other = a.kind == 6 ? b : a;
                for (int p = 1; p < other.ports.length; p++) {
                    Node e = make(6, 0);
                    fresh.add(e);
                    glue.put(other.ports[p], e.ports[0]);
                }
            } else if (kind <= 2) {
                for (int p = 1; p < a.ports.length; p++) {
                    glue.put(a.ports[p], b.ports[p]);
                    glue.put(b.ports[p], a.ports[p]);
                }
            } else {
                Node low = a.level < b.level ? a : b;
                Node high = low == a ? b : a;
                int more = low.kind == 3 ? 0 : low.kind == 4 ? 1 : -1;
                List<Node> highs = new ArrayList<>();
                List<Node> lows = new ArrayList<>();
                for (int p = 1; p < low.ports.length; p++) {
                    Node h = make(high.kind, high.level + more);
                    highs.add(h);
                    glue.put(low.ports[p], h.ports[0]);
                }
                for (int q = 1; q < high.ports.length; q++) {
                    Node l = make(low.kind, low.level);
                    lows.add(l);
                    glue.put(high.ports[q], l.ports[0]);
                }
                for (int p = 1; p <= highs.size(); p++) {
                    for (int q = 1; q <= lows.size(); q++) {
                        wire(highs.get(p - 1).ports[q], lows.get(q - 1).ports[p]);
                    }
                }
                fresh.addAll(highs);
                fresh.addAll(lows);
            }
            settle(a, b, glue, fresh);
            bound = 400;
            if (nodes.size() > 400) {
                nodes.clear();
                nodes.putAll(before.nodes);
                return -1;
            }
            return kind;
        }

        /** Every live port follows wire, glue, wire, glue .. till it comes to a live port again. */
        private void settle(Node a, Node b, Map<Port, Port> glue, List<Node> fresh) {
            Map<Port, Port> ends = new HashMap<>();
            List<Port> starts = new ArrayList<>();
            for (Node n : List.of(a, b)) {
                for (int p = 1; p < n.ports.length; p++) {
                    Port outside = n.ports[p].other;
                    if (outside.node != a && outside.node != b) {
                        starts.add(outside);
                    }
                }
            }
            for (Port s : starts) {
                Port dead = s.other;
                ends.put(s, follow(dead, a, b, glue));
            }
            for (Map.Entry<Port, Port> g : glue.entrySet()) {
                if (fresh.contains(g.getValue().node)) {
                    // from a new head: over the dead port's wire
                    Port o = g.getKey().other;
                    ends.put(g.getValue(), o.node == a || o.node == b ? follow(o, a, b, glue) : o);
                }
            }
            for (Map.Entry<Port, Port> e : ends.entrySet()) {
                e.getKey().other = e.getValue();
            }
        }

        private static Port follow(Port dead, Node a, Node b, Map<Port, Port> glue) {
            Port at = dead;
            for (int n = 0; n < 20; n++) {
                Port glued = glue.get(at);
                if (glued.node != a && glued.node != b) {
                    return glued;
                }
                Port o = glued.other;
                if (o.node != a && o.node != b) {
                    return o;
                }
                at = o;
            }
            throw new IllegalStateException("a ring");
        }
    }

    // ---- reading ----
    static final class Reading {
        int wires = 0;
        int parts = 0;
        Node wantedA = null;
        Node wantedB = null;
        int wantedWires = 0;
        Term term = null;

        Reading(Web web) {
            try {
                term = go(web.nodes.get(0).ports[0], new ArrayList<>(), new ArrayList<>());
            } catch (Lost lost) {
                term = null;
            }
        }

        record Seen(Node lam, List<List<Object>> stacks, Term term) { }

        /** A stack is a list, its top last: 1, 2, or a couple, a list of two stacks. */
        static List<Object> at(List<List<Object>> stacks, int n) {
            while (stacks.size() <= n + 1) {
                stacks.add(new ArrayList<>());
            }
            return stacks.get(n);
        }

        void part() {
            parts++;
            if (parts > 400) {
                throw new Lost();
            }
        }

        Term go(Port from, List<List<Object>> stacks, List<Seen> seen) {
            Port at = from;
            while (true) {
                Port to = at.other;
                wires++;
                if (wantedA == null && at.number == 0 && to.number == 0 && at.node.kind != 0 && to.node.kind != 0) {
                    wantedA = at.node.id < to.node.id ? at.node : to.node;
                    wantedB = wantedA == at.node ? to.node : at.node;
                    wantedWires = wires;
                }
                if (wires > 4000) {
                    throw new Lost();
                }
                Node n = to.node;
                int k = n.level;
                if (k > 200) {
                    throw new Lost();
                }
                at(stacks, k);
                if (n.kind == 1 && to.number == 0) {
                    part();
                    Term made = new Term(1, null, null, null);
                    List<Seen> more = new ArrayList<>(seen);
                    more.add(new Seen(n, below(stacks, k), made));
                    made.left = go(n.ports[1], stacks, more);
                    return made;
                }
                if (n.kind == 1 && to.number == 2) {
                    part();
                    for (int i = seen.size() - 1; i >= 0; i--) {
                        if (seen.get(i).lam == n && seen.get(i).stacks.equals(below(stacks, k))) {
                            return new Term(2, null, null, seen.get(i).term);
                        }
                    }
                    throw new Lost();
                }
                if (n.kind == 2 && to.number == 1) {
                    part();
                    List<List<Object>> then = new ArrayList<>();
                    for (List<Object> s : stacks) {
                        then.add(new ArrayList<>(s));
                    }
                    Term f = go(n.ports[0], stacks, seen);
                    return new Term(0, f, go(n.ports[2], then, seen), null);
                }
                at = turn(n, to.number, k, stacks);
            }
        }

        static List<List<Object>> below(List<List<Object>> stacks, int k) {
            List<List<Object>> out = new ArrayList<>();
            for (int i = 0; i < k; i++) {
                out.add(new ArrayList<>(at(stacks, i)));
            }
            return out;
        }

        Port turn(Node n, int port, int k, List<List<Object>> stacks) {
            List<Object> stack = at(stacks, k);
            if (n.kind == 3) {
                if (port > 0) {
                    stack.add(port);
                    return n.ports[0];
                }
                if (stack.isEmpty() || !(stack.get(stack.size() - 1) instanceof Integer)) {
                    throw new Lost();
                }
                return n.ports[(Integer) stack.remove(stack.size() - 1)];
            }
            if (n.kind == 5) {
                if (port == 1) {
                    stacks.add(k, new ArrayList<>());
                    return n.ports[0];
                }
                if (!stack.isEmpty()) {
                    throw new Lost();
                }
                stacks.remove(k);
                return n.ports[1];
            }
            if (n.kind == 4) {
                if (port == 1) {
                    List<Object> couple = new ArrayList<>();
                    couple.add(stacks.get(k));
                    couple.add(stacks.get(k + 1));
                    stacks.remove(k + 1);
                    List<Object> alone = new ArrayList<>();
                    alone.add(couple);
                    stacks.set(k, alone);
                    return n.ports[0];
                }
                if (stack.size() != 1 || !(stack.get(0) instanceof List)) {
                    throw new Lost();
                }
                List<?> couple = (List<?>) stack.get(0);
                stacks.set(k, stackOf(couple.get(0)));
                stacks.add(k + 1, stackOf(couple.get(1)));
                return n.ports[1];
            }
            throw new Lost();
        }

        private static List<Object> stackOf(Object o) {
            return new ArrayList<>((List<?>) o);
        }
    }

    // ---- the state and the calls ----
    final StringBuilder tape = new StringBuilder();
    Term told;
    Web web;
    int faultPlace = -1;
    int[] steps = new int[6];
    int most;
    String saidText = "";

    Model() {
        told = new Term(1, null, null, null);
        told.left = new Term(2, null, null, told);
        again();
    }

    int feed(int a, int b, int c, int d, int e) {
        if (tape.length() > 680) {
            return -1;
        }
        for (int x : new int[] {a, b, c, d, e}) {
            for (int s = 24; s >= 0; s -= 8) {
                tape.append((char) (x >> s & 255));
            }
        }
        return tape.length();
    }

    int tell(int n) {
        if (n < 0 || n > tape.length()) {
            throw new IllegalArgumentException();
        }
        String text = tape.substring(0, n);
        tape.setLength(0);
        faultPlace = -1;
        Term t;
        Web w;
        try {
            t = new Parser(text).program();
            if (size(t, new IdentityHashMap<>()) > 120) {
                throw new Fault(5, n);
            }
            t = whole(t, new IdentityHashMap<>());
            w = laid(t);
        } catch (Fault f) {
            faultPlace = f.kind == 5 ? n : f.place;
            return f.kind;
        }
        told = t;
        begin(w);
        return 0;
    }

    static Web laid(Term t) {
        Web w = new Web();
        Node root = w.make(0, 0);
        wire(root.ports[0], w.lay(t, 0, new ArrayList<>(), new IdentityHashMap<>()));
        return w;
    }

    void begin(Web w) {
        web = w;
        steps = new int[6];
        most = web.nodes.size();
    }

    int fault() {
        return faultPlace;
    }

    int again() {
        int before = web == null ? 0 : web.nodes.size();
        begin(laid(told));
        return before;
    }

    static int stepOf(Web w, int way) {
        Node a;
        if (way == 0) {
            a = new Reading(w).wantedA;
        } else {
            List<Node> all = w.activeOnes();
            a = all.isEmpty() ? null : all.get(way == 1 ? 0 : all.size() - 1);
        }
        return a == null ? 0 : w.work(a, a.ports[0].other.node);
    }

    static void way(int way) {
        if (way != 0 && way != 1 && way != 2) {
            throw new IllegalArgumentException();
        }
    }

    int step(int way) {
        way(way);
        int k = stepOf(web, way);
        if (k > 0) {
            steps[0]++;
            steps[k]++;
            most = Math.max(most, web.nodes.size());
        }
        return k;
    }

    int run(int way, int n) {
        way(way);
        if (n < 0 || n > 60) {
            throw new IllegalArgumentException();
        }
        int done = 0;
        while (done < n && step(way) > 0) {
            done++;
        }
        return done;
    }

    int count(int what) {
        if (what >= 3 && what <= 8) {
            return steps[what - 3];
        }
        if (what >= 16 && what <= 22) {
            return (int) web.nodes.values().stream().filter(n -> n.kind == what - 16).count();
        }
        switch (what) {
            case 0:
                return web.nodes.size();
            case 1:
                return web.activeOnes().size();
            case 2:
                return web.nodes.values().stream().mapToInt(n -> n.level).max().orElse(0);
            case 9:
                return most;
            case 10: {
                Term t = new Reading(web).term;
                return t == null ? -1 : parts(t).size();
            }
            case 11: {
                Reading r = new Reading(web);
                return r.term != null && r.wantedA == null ? 1 : 0;
            }
            case 12:
                return plainTerm() == null ? -1 : plainRounds;
            case 13: {
                Term t = plainTerm();
                return t == null ? -1 : parts(t).size();
            }
            case 14:
                return parts(told).size();
            case 15:
                return tape.length();
            case 23:
                return new Reading(web).wires;
            default:
                throw new NoSuchElementException();
        }
    }

    int node(int node, int what) {
        Node n = web.nodes.get(node);
        if (n == null || what < 0 || what > 4) {
            throw new NoSuchElementException();
        }
        if (what < 2) {
            return what == 0 ? n.kind : n.level;
        }
        if (what - 2 >= n.ports.length) {
            return -1;
        }
        Port o = n.ports[what - 2].other;
        return 4 * o.node.id + o.number;
    }

    int active(int i, int what) {
        List<Node> all = web.activeOnes();
        if (i < 0 || i >= all.size() || what < 0 || what > 2) {
            throw new NoSuchElementException();
        }
        Node a = all.get(i);
        Node b = a.ports[0].other.node;
        return what == 0 ? a.id : what == 1 ? b.id : Web.kindOf(a, b);
    }

    int wanted(int what) {
        if (what < 0 || what > 2) {
            throw new NoSuchElementException();
        }
        Reading r = new Reading(web);
        if (what == 2) {
            return r.wantedWires;
        }
        return r.wantedA == null ? -1 : what == 0 ? r.wantedA.id : r.wantedB.id;
    }

    private int plainRounds;
    private boolean plainTooMany;

    private Term plainBehind(int n) {
        Term t = copy(told, new IdentityHashMap<>());
        plainRounds = 0;
        plainTooMany = false;
        while (plainRounds < n) {
            Term r = firstRedex(t);
            if (r == null) {
                break;
            }
            t = replace(t, r, substitute(r.left.left, r.left, r.right));
            plainRounds++;
            if (parts(t).size() > 1000) {
                plainTooMany = true;
                return t;
            }
        }
        return t;
    }

    private Term plainTerm() {
        Term t = plainBehind(200);
        return plainTooMany || firstRedex(t) != null ? null : t;
    }

    private Term term(int which) {
        return which == 0 ? new Reading(web).term : which == 1 ? plainTerm() : which == 2 ? told : null;
    }

    private static void which(int which) {
        if (which < 0 || which > 2) {
            throw new IllegalArgumentException();
        }
    }

    int part(int which, int i) {
        Term t = term(which);
        if (t == null || i < 0 || i >= parts(t).size()) {
            throw new NoSuchElementException();
        }
        return parts(t).get(i);
    }

    int say(int which) {
        which(which);
        Term t = term(which);
        if (t == null) {
            return -1;
        }
        saidText = tellTerm(t, new ArrayList<>());
        return saidText.length();
    }

    int said(int i) {
        return i < 0 || i >= saidText.length() ? -1 : saidText.charAt(i);
    }

    boolean same(int which, int other) {
        which(which);
        which(other);
        Term a = term(which);
        Term b = term(other);
        if (a == null || b == null) {
            throw new NoSuchElementException();
        }
        return parts(a).equals(parts(b));
    }

    int plain(int n) {
        if (n < 0 || n > 200) {
            throw new IllegalArgumentException();
        }
        Term t = plainBehind(n);
        return plainTooMany ? -1 : parts(t).size();
    }

    int redexes(int which) {
        which(which);
        Term t = term(which);
        if (t == null) {
            throw new NoSuchElementException();
        }
        return redexesOf(t);
    }

    int trial(int way, int what) {
        way(way);
        if (what < 0 || what > 3) {
            throw new NoSuchElementException();
        }
        Web w = web.twin();
        int[] out = {0, 0, w.nodes.size(), 1};
        while (out[0] < 400) {
            int k = stepOf(w, way);
            if (k < 1) {
                out[3] = k;
                break;
            }
            out[0]++;
            out[1] += k == 1 ? 1 : 0;
            out[2] = Math.max(out[2], w.nodes.size());
        }
        return out[what];
    }
}
