import java.util.Arrays;
import java.util.NoSuchElementException;

/**
 * A net for functions that share what they have in common: a program is told as a text, laid as a
 * net, worked off wire by wire, and read back; beside it the same program is worked off plainly.
 */
public final class FanNet {
    public static final int NONE = -1;

    private static final int JAM = -2;

    private static final int APPLICATION = 0;
    private static final int FUNCTION = 1;
    private static final int VARIABLE = 2;

    private static final int ROOT = 0;
    private static final int LAM = 1;
    private static final int APP = 2;
    private static final int FAN = 3;
    private static final int BRACKET = 4;
    private static final int CURL = 5;
    private static final int ERASER = 6;

    private static final int BETA = 1;
    private static final int OUT = 2;
    private static final int COPIED = 3;
    private static final int MOVED = 4;
    private static final int ERASED = 5;

    private static final int FAULT_PLACE = 1;
    private static final int FAULT_MUCH = 2;
    private static final int FAULT_NOTHING = 3;
    private static final int FAULT_AGAIN = 4;
    private static final int FAULT_BIG = 5;

    private static final int MOST_TAPE = 700;
    private static final int MOST_TOLD = 120;
    private static final int MOST_NODES = 400;
    private static final int MOST_READ = 400;
    private static final int MOST_WIRES = 4000;
    private static final int MOST_LEVEL = 200;
    private static final int MOST_PLAIN = 1000;
    private static final int MOST_ROUNDS = 200;
    private static final int MOST_RUN = 60;
    private static final int MOST_TRIAL = 400;

    private static final int WANTED_WAY = 0;
    private static final int LEAST_WAY = 1;
    private static final int GREATEST_WAY = 2;

    private static final int READ_TERM = 0;
    private static final int PLAIN_TERM = 1;
    private static final int TOLD_TERM = 2;

    private static final int KINDS = 7;
    private static final int[] PORTS = {1, 3, 3, 3, 2, 2, 1};

    private final Row tape = new Row(80, MOST_TAPE);
    private final Text text = new Text(tape);
    private final Walk walk = new Walk();
    private final Plainly plainly = new Plainly();
    private final Teller teller = new Teller();
    private final Row toldTerm = new Row(64, MOST_TOLD);
    private final Row newTerm = new Row(64, MOST_TOLD);
    private final Row plainTerm = new Row(64, MOST_PLAIN);
    private final Row stepsByKind = new Row(6, 6);
    private final Row trials = new Row(15, 15);
    private Net net = new Net();
    private Net spare = new Net();
    private final Layer layer = new Layer(net);
    private int faultPlace = NONE;
    private int mostNodes = 0;
    private int plainRounds = NONE;
    private boolean plainKnown = false;
    private boolean readKnown = false;

    public FanNet() {
        toldTerm.add(FUNCTION);
        toldTerm.add(VARIABLE);
        layer.lay(toldTerm, net);
        beginAnew();
    }

    public int feed(int a, int b, int c, int d, int e) {
        if (tape.size() + 20 > MOST_TAPE) {
            return NONE;
        }
        feedNumber(a);
        feedNumber(b);
        feedNumber(c);
        feedNumber(d);
        feedNumber(e);
        return tape.size();
    }

    public int tell(int n) throws IllegalArgumentException {
        if (n < 0 || n > tape.size()) {
            throw new IllegalArgumentException("the tape has not so many bytes");
        }
        tape.cut(n);
        int found = text.findFault();
        faultPlace = found == 0 ? NONE : text.place();
        if (found == 0 && !takeProgram()) {
            found = FAULT_BIG;
            faultPlace = n;
        }
        tape.cut(0);
        return found;
    }

    public int fault() {
        return faultPlace;
    }

    public int again() {
        int before = net.size();
        layer.lay(toldTerm, net);
        beginAnew();
        return before;
    }

    public int step(int way) throws IllegalArgumentException {
        refuseOtherWays(way);
        int kind = workOn(net, way);
        noteStep(kind);
        return kind;
    }

    public int run(int way, int n) throws IllegalArgumentException {
        refuseOtherWays(way);
        if (n < 0 || n > MOST_RUN) {
            throw new IllegalArgumentException("0 to 60 steps");
        }
        for (int done = 0; done < n; done++) {
            int kind = workOn(net, way);
            if (kind <= 0) {
                return done;
            }
            noteStep(kind);
        }
        return n;
    }

    public int count(int what) throws NoSuchElementException {
        if (what >= 16 && what < 16 + KINDS) {
            return net.sizeOfKind(what - 16);
        }
        if (what >= 3 && what <= 8) {
            return stepsByKind.get(what - 3);
        }
        switch (what) {
            case 0:
                return net.size();
            case 1:
                return net.activeWires();
            case 2:
                return net.greatestLevel();
            case 9:
                return mostNodes;
            case 10:
                return sizeOf(termOf(READ_TERM));
            case 11:
                return termOf(READ_TERM) != null && walk.wantedWires() == 0 ? 1 : 0;
            case 12:
                return termOf(PLAIN_TERM) == null ? NONE : plainRounds;
            case 13:
                return sizeOf(termOf(PLAIN_TERM));
            case 14:
                return toldTerm.size();
            case 15:
                return tape.size();
            case 23:
                termOf(READ_TERM);
                return walk.wires();
            default:
                throw new NoSuchElementException("no such count");
        }
    }

    public int node(int node, int what) throws NoSuchElementException {
        if (!net.has(node) || what < 0 || what > 4) {
            throw new NoSuchElementException("no such node, or nothing of that kind to tell of it");
        }
        if (what == 0) {
            return net.kind(node);
        }
        if (what == 1) {
            return net.level(node);
        }
        int port = what - 2;
        return port < net.ports(node) ? net.wire(4 * node + port) : NONE;
    }

    public int active(int i, int what) throws NoSuchElementException {
        int lesser = i < 0 || what < 0 || what > 2 ? NONE : net.activeNode(i);
        if (lesser == NONE) {
            throw new NoSuchElementException("no such active wire, or nothing of that kind to tell of it");
        }
        int other = net.wire(4 * lesser) / 4;
        if (what == 2) {
            return net.stepKind(lesser, other);
        }
        return what == 0 ? lesser : other;
    }

    public int wanted(int what) throws NoSuchElementException {
        if (what < 0 || what > 2) {
            throw new NoSuchElementException("nothing of that kind to tell of what is wanted");
        }
        termOf(READ_TERM);
        if (what == 2) {
            return walk.wantedWires();
        }
        int lesser = walk.wantedNode();
        if (lesser == NONE) {
            return NONE;
        }
        return what == 0 ? lesser : net.wire(4 * lesser) / 4;
    }

    public int part(int which, int i) throws NoSuchElementException {
        Row term = termOf(which);
        if (term == null || i < 0 || i >= term.size()) {
            throw new NoSuchElementException("no such part or term");
        }
        return term.get(i);
    }

    public int say(int which) throws IllegalArgumentException {
        refuseOtherTerms(which);
        Row term = termOf(which);
        return term == null ? NONE : teller.saying(term);
    }

    public int said(int i) {
        return teller.sign(i);
    }

    public boolean same(int which, int other) throws IllegalArgumentException, NoSuchElementException {
        refuseOtherTerms(which);
        refuseOtherTerms(other);
        Row term = termOf(which);
        Row otherTerm = termOf(other);
        if (term == null || otherTerm == null) {
            throw new NoSuchElementException("no such term");
        }
        return term.alike(otherTerm);
    }

    public int plain(int n) throws IllegalArgumentException {
        if (n < 0 || n > MOST_ROUNDS) {
            throw new IllegalArgumentException("0 to 200 rounds");
        }
        plainly.workOff(toldTerm, n);
        return plainly.tooMany() ? NONE : plainly.term().size();
    }

    public int redexes(int which) throws IllegalArgumentException, NoSuchElementException {
        refuseOtherTerms(which);
        Row term = termOf(which);
        if (term == null) {
            throw new NoSuchElementException("no such term");
        }
        int found = 0;
        for (int i = 0; i < term.size(); i++) {
            if (isRedex(term, i)) {
                found++;
            }
        }
        return found;
    }

    public int trial(int way, int what) throws IllegalArgumentException, NoSuchElementException {
        refuseOtherWays(way);
        if (what < 0 || what > 3) {
            throw new NoSuchElementException("nothing of that kind to tell of a trial");
        }
        int at = 5 * way;
        if (trials.get(at + 4) == 1) {
            return trials.get(at + what);
        }
        int steps = 0;
        int betas = 0;
        int most = net.size();
        int end = 1;
        spare.copy(net);
        while (steps < MOST_TRIAL && end > 0) {
            int kind = workOn(spare, way);
            if (kind > 0) {
                steps++;
                betas += kind == BETA ? 1 : 0;
                most = Math.max(most, spare.size());
            } else {
                end = kind;
            }
        }
        trials.set(at, steps);
        trials.set(at + 1, betas);
        trials.set(at + 2, most);
        trials.set(at + 3, end);
        trials.set(at + 4, 1);
        return trials.get(at + what);
    }

    private void feedNumber(int number) {
        tape.add(number >>> 24);
        tape.add(number >>> 16 & 255);
        tape.add(number >>> 8 & 255);
        tape.add(number & 255);
    }

    /** Lays the text's program beside the old one, which stays if the new one is too big. */
    private boolean takeProgram() {
        if (!text.putTerm(newTerm) || !layer.lay(newTerm, spare)) {
            return false;
        }
        Net old = net;
        net = spare;
        spare = old;
        toldTerm.copy(newTerm);
        plainKnown = false;
        beginAnew();
        return true;
    }

    private void beginAnew() {
        stepsByKind.fill(6, 0);
        mostNodes = net.size();
        forget();
    }

    /** What was found out about the net holds no longer. */
    private void forget() {
        readKnown = false;
        trials.fill(15, 0);
    }

    private void noteStep(int kind) {
        if (kind > 0) {
            stepsByKind.set(0, stepsByKind.get(0) + 1);
            stepsByKind.set(kind, stepsByKind.get(kind) + 1);
            mostNodes = Math.max(mostNodes, net.size());
            forget();
        }
    }

    private int workOn(Net some, int way) {
        int chosen;
        if (way == WANTED_WAY) {
            if (some != net || !readKnown) {
                walk.go(some, false);
                readKnown = false;
            }
            chosen = walk.wantedNode();
        } else {
            chosen = way == LEAST_WAY ? some.leastActive() : some.greatestActive();
        }
        return chosen == NONE ? 0 : some.workOff(chosen);
    }

    /** The term of that number, null if there is none. */
    private Row termOf(int which) {
        if (which == TOLD_TERM) {
            return toldTerm;
        }
        if (which == READ_TERM) {
            if (!readKnown) {
                walk.go(net, true);
                readKnown = true;
            }
            return walk.isRead() ? walk.term() : null;
        }
        if (which != PLAIN_TERM) {
            return null;
        }
        if (!plainKnown) {
            plainly.workOff(toldTerm, MOST_ROUNDS);
            plainTerm.copy(plainly.term());
            plainRounds = plainly.isAtEnd() ? plainly.rounds() : NONE;
            plainKnown = true;
        }
        return plainRounds == NONE ? null : plainTerm;
    }

    private static int sizeOf(Row term) {
        return term == null ? NONE : term.size();
    }

    private static boolean isRedex(Row term, int i) {
        return i + 1 < term.size() && term.get(i) == APPLICATION && term.get(i + 1) == FUNCTION;
    }

    private static void refuseOtherWays(int way) {
        if (way < WANTED_WAY || way > GREATEST_WAY) {
            throw new IllegalArgumentException("no such way");
        }
    }

    private static void refuseOtherTerms(int which) {
        if (which < READ_TERM || which > TOLD_TERM) {
            throw new IllegalArgumentException("no such term can be");
        }
    }

    /** A row of numbers that grows up to a bound; whoever uses it need not look at an index first. */
    private static final class Row {
        private final int most;
        private int[] items;
        private int size;

        Row(int first, int most) {
            this.most = most;
            this.items = new int[Math.max(1, Math.min(first, most))];
            this.size = 0;
        }

        int size() {
            return size;
        }

        int get(int i) {
            return i >= 0 && i < size ? items[i] : 0;
        }

        void set(int i, int value) {
            if (i >= 0 && i < size) {
                items[i] = value;
            }
        }

        /** False, and nothing comes, if the row is full. */
        boolean add(int value) {
            if (size >= most) {
                return false;
            }
            if (size >= items.length) {
                items = Arrays.copyOf(items, Math.min(most, 2 * items.length));
            }
            items[size] = value;
            size++;
            return true;
        }

        void insert(int i, int value) {
            if (i < 0 || i > size || size >= most) {
                return;
            }
            if (size >= items.length) {
                items = Arrays.copyOf(items, Math.min(most, 2 * items.length));
            }
            System.arraycopy(items, i, items, i + 1, size - i);
            items[i] = value;
            size++;
        }

        void drop(int i) {
            if (i >= 0 && i < size) {
                System.arraycopy(items, i + 1, items, i, size - i - 1);
                size--;
            }
        }

        int takeLast() {
            if (size == 0) {
                return 0;
            }
            size--;
            return items[size];
        }

        void cut(int n) {
            if (n >= 0 && n < size) {
                size = n;
            }
        }

        void fill(int n, int value) {
            size = 0;
            for (int i = 0; i < n && i < items.length; i++) {
                items[i] = value;
                size = i + 1;
            }
        }

        void copy(Row other) {
            if (other.size > most) {
                return;
            }
            if (other.size > items.length) {
                items = Arrays.copyOf(items, Math.min(most, Math.max(other.size, 2 * items.length)));
            }
            System.arraycopy(other.items, 0, items, 0, other.size);
            size = other.size;
        }

        boolean alike(Row other) {
            if (size != other.size) {
                return false;
            }
            for (int i = 0; i < size; i++) {
                if (items[i] != other.items[i]) {
                    return false;
                }
            }
            return true;
        }
    }

    /** Cuts a text into words, numbers and signs; a sign is its own sort. */
    private static final class Tokens {
        static final int END = 0;
        static final int STRANGE = 1;
        static final int WORD = 'a';
        static final int NUMBER = '0';

        private final Row bytes;
        private int sort = END;
        private int start = 0;
        private int end = 0;

        Tokens(Row bytes) {
            this.bytes = bytes;
        }

        void begin() {
            sort = END;
            start = 0;
            end = 0;
        }

        int sort() {
            return sort;
        }

        int start() {
            return start;
        }

        int end() {
            return end;
        }

        int figure() {
            return bytes.get(start) - '0';
        }

        void advance() {
            start = behindBlanks(end);
            sort = sortOf(start);
            end = sort == END ? start : start + 1;
            if (sort == WORD || sort == NUMBER) {
                while (end < bytes.size() && sortOf(end) == sort) {
                    end++;
                }
            }
        }

        boolean equalsSignIsNext() {
            return sortOf(behindBlanks(end)) == '=';
        }

        /** Whether the word that is looked at is the one that stands from a place to another one. */
        boolean isWord(int from, int to) {
            if (to - from != end - start) {
                return false;
            }
            for (int i = from; i < to; i++) {
                if (bytes.get(i) != bytes.get(start + i - from)) {
                    return false;
                }
            }
            return true;
        }

        private int behindBlanks(int from) {
            int at = from;
            while (at < bytes.size() && (bytes.get(at) == ' ' || bytes.get(at) == '\n')) {
                at++;
            }
            return at;
        }

        private int sortOf(int at) {
            if (at >= bytes.size()) {
                return END;
            }
            int sign = bytes.get(at);
            if (sign >= 'a' && sign <= 'z') {
                return WORD;
            }
            if (sign >= '0' && sign <= '9') {
                return NUMBER;
            }
            switch (sign) {
                case '\\':
                case '.':
                case '=':
                case ';':
                case '(':
                case ')':
                    return sign;
                default:
                    return STRANGE;
            }
        }
    }

    /**
     * Takes a text token by token. What it tells is kept as parts, with a number below 0 for a
     * figure or a name: put in at once, names in names could make far too many parts.
     */
    private static final class Text {
        private static final int AT_ITEM = 0;
        private static final int AT_TERM = 1;
        private static final int AT_FIRST_NAME = 2;
        private static final int AT_NAMES = 3;
        private static final int BEHIND_ATOM = 4;

        private static final int MOST_LETTERS = 8;
        private static final int MOST_NAMES = 12;
        private static final int MOST_OPEN = 12;
        private static final int MOST_AROUND = 30;
        private static final int FIRST_FIGURE = -1;
        private static final int FIRST_NAME = -11;
        private static final int NAME_ROW = 5;
        private static final int OPEN_ROW = 3;

        private final Tokens tokens;
        private final Row code = new Row(128, 2 * MOST_TAPE + 2);
        /** Per name: where its word stands (from, to), where its code (from, to), how many parts. */
        private final Row names = new Row(NAME_ROW, NAME_ROW * (MOST_NAMES + 1));
        /** Per function around: where its name stands (from, to). */
        private final Row around = new Row(16, 2 * MOST_AROUND + 2);
        /** Per open parenthesis what is to be taken up behind it: chain, atoms, functions around. */
        private final Row open = new Row(9, OPEN_ROW * MOST_OPEN);
        private final Row backs = new Row(8, 2 * MOST_NAMES + 2);
        private int state = AT_ITEM;
        private int chain = 0;
        private int atoms = 0;
        private int codeStart = 0;
        private int told = 0;
        private boolean naming = false;

        Text(Row bytes) {
            tokens = new Tokens(bytes);
        }

        int place() {
            return tokens.start();
        }

        int findFault() {
            tokens.begin();
            code.cut(0);
            names.cut(0);
            open.cut(0);
            told = 0;
            naming = false;
            beginItem();
            for (int n = 0; n <= MOST_TAPE; n++) {
                tokens.advance();
                int found = take();
                if (found != 0 || tokens.sort() == Tokens.END) {
                    return found;
                }
            }
            return FAULT_PLACE;
        }

        /** All names put in; false, if there would be too many parts. */
        boolean putTerm(Row term) {
            term.cut(0);
            if (partsOf(codeStart, code.size()) > MOST_TOLD) {
                return false;
            }
            backs.cut(0);
            int at = codeStart;
            int end = code.size();
            // every turn is a part, a name or the end of one, and names lie at most 12 deep
            for (int n = 0; n < 100 * MOST_TOLD; n++) {
                if (at >= end) {
                    if (backs.size() == 0) {
                        return true;
                    }
                    end = backs.takeLast();
                    at = backs.takeLast();
                    continue;
                }
                int entry = code.get(at);
                at++;
                if (entry > FIRST_FIGURE) {
                    term.add(entry);
                } else if (entry > FIRST_NAME) {
                    putNumber(FIRST_FIGURE - entry, term);
                } else {
                    backs.add(at);
                    backs.add(end);
                    int name = NAME_ROW * (FIRST_NAME - entry);
                    at = names.get(name + 2);
                    end = names.get(name + 3);
                }
            }
            return false;
        }

        private static void putNumber(int number, Row term) {
            term.add(FUNCTION);
            term.add(FUNCTION);
            for (int i = 0; i < number; i++) {
                term.add(APPLICATION);
                term.add(VARIABLE + 1);
            }
            term.add(VARIABLE);
        }

        /** How many parts, or some number above the most: names in names soon pass an int. */
        private int partsOf(int from, int to) {
            int parts = 0;
            for (int i = from; i < to && parts <= MOST_TOLD; i++) {
                int entry = code.get(i);
                if (entry > FIRST_FIGURE) {
                    parts++;
                } else if (entry > FIRST_NAME) {
                    parts += 3 + 2 * (FIRST_FIGURE - entry);
                } else {
                    parts += names.get(NAME_ROW * (FIRST_NAME - entry) + 4);
                }
            }
            return parts;
        }

        private int take() {
            switch (tokens.sort()) {
                case Tokens.WORD:
                    return takeWord();
                case Tokens.NUMBER:
                    return takeNumber();
                case '(':
                    return takeOpening();
                case ')':
                    return takeClosing();
                case '\\':
                    return takeFunction();
                case '.':
                    return takePoint();
                case ';':
                    return takeSemicolon();
                case Tokens.END:
                    return isWhole() && !naming ? 0 : FAULT_PLACE;
                default:
                    return FAULT_PLACE;
            }
        }

        private int takeWord() {
            if (tokens.end() - tokens.start() > MOST_LETTERS) {
                return FAULT_MUCH;
            }
            if (state == AT_FIRST_NAME || state == AT_NAMES) {
                return takeFunctionName();
            }
            int name = nameOfWord();
            if (state == AT_ITEM && tokens.equalsSignIsNext()) {
                return takeNewName(name != NONE);
            }
            int inner = functionOfWord();
            if (inner == NONE && name == NONE) {
                return FAULT_NOTHING;
            }
            beginAtom();
            code.add(inner == NONE ? FIRST_NAME - name : VARIABLE + inner);
            state = BEHIND_ATOM;
            return 0;
        }

        private int takeNewName(boolean isTold) {
            if (told == MOST_NAMES) {
                return FAULT_MUCH;
            }
            if (isTold) {
                return FAULT_AGAIN;
            }
            names.add(tokens.start());
            names.add(tokens.end());
            names.add(code.size());
            names.add(0);
            names.add(0);
            naming = true;
            tokens.advance();
            state = AT_TERM;
            return 0;
        }

        private int takeFunctionName() {
            if (around.size() >= 2 * MOST_AROUND) {
                return FAULT_MUCH;
            }
            around.add(tokens.start());
            around.add(tokens.end());
            code.add(FUNCTION);
            state = AT_NAMES;
            return 0;
        }

        /** How many functions lie between the word and its own; NONE, if it is no variable. */
        private int functionOfWord() {
            int functions = around.size() / 2;
            for (int i = functions - 1; i >= 0; i--) {
                if (tokens.isWord(around.get(2 * i), around.get(2 * i + 1))) {
                    return functions - 1 - i;
                }
            }
            return NONE;
        }

        private int nameOfWord() {
            for (int i = 0; i < told; i++) {
                if (tokens.isWord(names.get(NAME_ROW * i), names.get(NAME_ROW * i + 1))) {
                    return i;
                }
            }
            return NONE;
        }

        private int takeNumber() {
            if (!isAtomDue()) {
                return FAULT_PLACE;
            }
            if (tokens.end() - tokens.start() > 1) {
                return FAULT_MUCH;
            }
            beginAtom();
            code.add(FIRST_FIGURE - tokens.figure());
            state = BEHIND_ATOM;
            return 0;
        }

        private int takeOpening() {
            if (!isAtomDue()) {
                return FAULT_PLACE;
            }
            if (open.size() >= OPEN_ROW * MOST_OPEN) {
                return FAULT_MUCH;
            }
            beginAtom();
            open.add(chain);
            open.add(atoms);
            open.add(around.size());
            atoms = 0;
            state = AT_TERM;
            return 0;
        }

        private int takeClosing() {
            if (state != BEHIND_ATOM || open.size() == 0) {
                return FAULT_PLACE;
            }
            around.cut(open.takeLast());
            atoms = open.takeLast();
            chain = open.takeLast();
            return 0;
        }

        private int takeFunction() {
            if (state != AT_ITEM && state != AT_TERM) {
                return FAULT_PLACE;
            }
            state = AT_FIRST_NAME;
            return 0;
        }

        private int takePoint() {
            if (state != AT_NAMES) {
                return FAULT_PLACE;
            }
            state = AT_TERM;
            return 0;
        }

        private int takeSemicolon() {
            if (!isWhole() || !naming) {
                return FAULT_PLACE;
            }
            int name = NAME_ROW * told;
            names.set(name + 3, code.size());
            names.set(name + 4, partsOf(names.get(name + 2), code.size()));
            told++;
            naming = false;
            beginItem();
            return 0;
        }

        private void beginItem() {
            around.cut(0);
            atoms = 0;
            codeStart = code.size();
            state = AT_ITEM;
        }

        private boolean isAtomDue() {
            return state == AT_ITEM || state == AT_TERM || state == BEHIND_ATOM;
        }

        private boolean isWhole() {
            return state == BEHIND_ATOM && open.size() == 0;
        }

        /** Only a further atom tells that the chain up to here is the function of an application. */
        private void beginAtom() {
            if (atoms == 0) {
                chain = code.size();
            } else {
                code.insert(chain, APPLICATION);
            }
            atoms++;
        }
    }

    /** Nodes, their levels, and for each port (4 times the node and the port) its other end. */
    private static final class Net {
        private static final int SLOTS = MOST_NODES + 2;
        /** Both nodes of a step lie in these while their numbers are given to new ones. */
        private static final int LEAD = MOST_NODES;
        private static final int MATE = MOST_NODES + 1;

        private final Row kinds = new Row(SLOTS, SLOTS);
        private final Row levels = new Row(SLOTS, SLOTS);
        private final Row wires = new Row(4 * SLOTS, 4 * SLOTS);
        private final Row copies = new Row(2, 2);
        private int size = 0;
        private int noneFreeBelow = 0;
        private int noneUsedFrom = 0;
        private boolean overfull = false;

        Net() {
            kinds.fill(SLOTS, NONE);
            levels.fill(SLOTS, 0);
            wires.fill(4 * SLOTS, 0);
        }

        void clear() {
            kinds.fill(SLOTS, NONE);
            size = 0;
            noneFreeBelow = 0;
            noneUsedFrom = 0;
            overfull = false;
        }

        void copy(Net other) {
            kinds.copy(other.kinds);
            levels.copy(other.levels);
            wires.copy(other.wires);
            size = other.size;
            noneFreeBelow = other.noneFreeBelow;
            noneUsedFrom = other.noneUsedFrom;
            overfull = other.overfull;
        }

        int size() {
            return size;
        }

        boolean isOverfull() {
            return overfull;
        }

        boolean has(int node) {
            return node >= 0 && node < MOST_NODES && kinds.get(node) != NONE;
        }

        int kind(int node) {
            return kinds.get(node);
        }

        int level(int node) {
            return levels.get(node);
        }

        int ports(int node) {
            int kind = kinds.get(node);
            return kind >= 0 && kind < PORTS.length ? PORTS[kind] : 0;
        }

        int wire(int port) {
            return wires.get(port);
        }

        int make(int kind, int level) {
            for (int node = noneFreeBelow; node < MOST_NODES; node++) {
                if (kinds.get(node) == NONE) {
                    kinds.set(node, kind);
                    levels.set(node, level);
                    size++;
                    noneFreeBelow = node + 1;
                    noneUsedFrom = Math.max(noneUsedFrom, node + 1);
                    return node;
                }
            }
            overfull = true;
            return NONE;
        }

        void link(int port, int other) {
            wires.set(port, other);
            wires.set(other, port);
        }

        int sizeOfKind(int kind) {
            int found = 0;
            for (int node = 0; node < noneUsedFrom; node++) {
                if (kinds.get(node) == kind) {
                    found++;
                }
            }
            return found;
        }

        int greatestLevel() {
            int greatest = 0;
            for (int node = 0; node < noneUsedFrom; node++) {
                if (kinds.get(node) != NONE) {
                    greatest = Math.max(greatest, levels.get(node));
                }
            }
            return greatest;
        }

        int activeWires() {
            int found = 0;
            for (int node = 0; node < noneUsedFrom; node++) {
                if (isLesserOfActive(node)) {
                    found++;
                }
            }
            return found;
        }

        int leastActive() {
            return activeNode(0);
        }

        int greatestActive() {
            for (int node = noneUsedFrom - 1; node >= 0; node--) {
                if (isLesserOfActive(node)) {
                    return node;
                }
            }
            return NONE;
        }

        /** The lesser node of the i-th active wire. */
        int activeNode(int i) {
            int left = i;
            for (int node = 0; node < noneUsedFrom; node++) {
                if (isLesserOfActive(node)) {
                    if (left == 0) {
                        return node;
                    }
                    left--;
                }
            }
            return NONE;
        }

        /** The root is node 0: it is the lesser node of its wire, so one look keeps it out. */
        private boolean isLesserOfActive(int node) {
            if (node == 0 || kinds.get(node) == NONE) {
                return false;
            }
            int end = wires.get(4 * node);
            return end % 4 == 0 && end / 4 > node;
        }

        int stepKind(int node, int other) {
            int kind = kinds.get(node);
            int otherKind = kinds.get(other);
            if (kind == ERASER || otherKind == ERASER) {
                return ERASED;
            }
            int apart = levels.get(node) - levels.get(other);
            if (apart == 0) {
                if (kind == otherKind) {
                    return isMover(kind) ? OUT : JAM;
                }
                return Math.min(kind, otherKind) == LAM && Math.max(kind, otherKind) == APP ? BETA : JAM;
            }
            int lowerKind = apart < 0 ? kind : otherKind;
            if (!isMover(lowerKind)) {
                return JAM;
            }
            return lowerKind == FAN ? COPIED : MOVED;
        }

        private static boolean isMover(int kind) {
            return kind == FAN || kind == BRACKET || kind == CURL;
        }

        /** Works off the active wire at a node's head: the step's kind, JAM, or NONE if it is full. */
        int workOff(int node) {
            int other = wires.get(4 * node) / 4;
            int step = stepKind(node, other);
            if (step == JAM) {
                return JAM;
            }
            boolean leads = leads(node, other);
            int lead = leads ? node : other;
            int mate = leads ? other : node;
            if (size - 2 + newNodes(step, lead, mate) > MOST_NODES) {
                return NONE;
            }
            lift(lead, LEAD);
            lift(mate, MATE);
            switch (step) {
                case ERASED:
                    erase();
                    break;
                case BETA:
                case OUT:
                    joinPorts();
                    break;
                default:
                    goThrough();
                    break;
            }
            return step;
        }

        /** An eraser leads, else the node of the lower level. */
        private boolean leads(int node, int other) {
            if (kinds.get(node) == ERASER || kinds.get(other) == ERASER) {
                return kinds.get(node) == ERASER;
            }
            return levels.get(node) < levels.get(other);
        }

        private int newNodes(int step, int lead, int mate) {
            if (step == BETA || step == OUT) {
                return 0;
            }
            return ports(lead) - 1 + ports(mate) - 1;
        }

        private void lift(int node, int slot) {
            kinds.set(slot, kinds.get(node));
            levels.set(slot, levels.get(node));
            for (int port = 0; port < ports(slot); port++) {
                link(4 * slot + port, wires.get(4 * node + port));
            }
            kinds.set(node, NONE);
            size--;
            noneFreeBelow = Math.min(noneFreeBelow, node);
        }

        /** One port behind another: what is joined first may end in a port that is joined next. */
        private void joinPorts() {
            for (int port = 1; port < ports(LEAD); port++) {
                int one = 4 * LEAD + port;
                int other = 4 * MATE + port;
                if (wires.get(one) != other) {
                    link(wires.get(one), wires.get(other));
                }
            }
        }

        private void erase() {
            for (int port = 1; port < ports(MATE); port++) {
                int eraser = make(ERASER, 0);
                link(4 * eraser, wires.get(4 * MATE + port));
            }
        }

        private void goThrough() {
            int kind = kinds.get(LEAD);
            int raise = kind == BRACKET ? 1 : kind == CURL ? -1 : 0;
            copies.cut(0);
            for (int p = 1; p < ports(LEAD); p++) {
                int copy = make(kinds.get(MATE), levels.get(MATE) + raise);
                copies.add(copy);
                link(4 * copy, wires.get(4 * LEAD + p));
            }
            for (int q = 1; q < ports(MATE); q++) {
                int mover = make(kind, levels.get(LEAD));
                link(4 * mover, wires.get(4 * MATE + q));
                for (int p = 1; p < ports(LEAD); p++) {
                    link(4 * copies.get(p - 1) + q, 4 * mover + p);
                }
            }
        }
    }

    /** Lays a term as a net, part by part, without going down into it by recursion. */
    private static final class Layer {
        private static final int FRAME_ROW = 3;
        private static final int END_ROW = 3;

        /** Per open part: its node, its place, its argument's place (0: not yet; NONE: a function). */
        private final Row frames = new Row(24, FRAME_ROW * MOST_TOLD);
        /** Per end: its port, the place of a variable in it, the next end of the same variable. */
        private final Row ends = new Row(24, END_ROW * MOST_TOLD);
        /** Per function around: the latest end of its variable. */
        private final Row lastEnds = new Row(16, MOST_TOLD);
        private Net net;
        private int level = 0;

        Layer(Net net) {
            this.net = net;
        }

        /** False, if the net would have too many nodes. */
        boolean lay(Row term, Net into) {
            into.clear();
            net = into;
            level = 0;
            frames.cut(0);
            ends.cut(0);
            lastEnds.cut(0);
            into.make(ROOT, 0);
            for (int i = 0; i < term.size() && !into.isOverfull(); i++) {
                int sort = term.get(i);
                if (sort == APPLICATION) {
                    beginFrame(APP, i, 0);
                } else if (sort == FUNCTION) {
                    beginFrame(LAM, i, NONE);
                    lastEnds.add(NONE);
                } else {
                    finish(layVariable(lastEnds.size() - 1 - (sort - VARIABLE), i), i + 1);
                }
            }
            return !into.isOverfull();
        }

        private void beginFrame(int kind, int place, int argument) {
            frames.add(net.make(kind, level));
            frames.add(place);
            frames.add(argument);
        }

        /** Its top. */
        private int layVariable(int function, int place) {
            int curl = net.make(CURL, level);
            int end = ends.size() / END_ROW;
            ends.add(4 * curl);
            ends.add(place);
            ends.add(lastEnds.get(function));
            lastEnds.set(function, end);
            return 4 * curl + 1;
        }

        /** A term with that top is laid; so are all around it that it ends. */
        private void finish(int top, int behind) {
            int done = top;
            for (int at = frames.size() - FRAME_ROW; at >= 0; at -= FRAME_ROW) {
                int node = frames.get(at);
                int argument = frames.get(at + 2);
                if (argument == 0) {
                    net.link(4 * node, done);
                    frames.set(at + 2, behind);
                    level++;
                    return;
                }
                if (argument == NONE) {
                    net.link(4 * node + 1, done);
                    finishFunction(node);
                    done = 4 * node;
                } else {
                    net.link(4 * node + 2, done);
                    level--;
                    bracketEnds(argument);
                    fanEnds(frames.get(at + 1), argument);
                    done = 4 * node + 1;
                }
                frames.cut(at);
            }
            net.link(0, done);
        }

        private void finishFunction(int node) {
            int end = lastEnds.takeLast();
            int port = end == NONE ? 4 * net.make(ERASER, 0) : ends.get(END_ROW * end);
            net.link(port, 4 * node + 2);
        }

        /** What was told behind the argument's place is the argument's. */
        private void bracketEnds(int argument) {
            for (int i = 0; i < lastEnds.size(); i++) {
                int end = lastEnds.get(i);
                if (end != NONE && ends.get(END_ROW * end + 1) >= argument) {
                    int bracket = net.make(BRACKET, level);
                    net.link(4 * bracket + 1, ends.get(END_ROW * end));
                    ends.set(END_ROW * end, 4 * bracket);
                }
            }
        }

        private void fanEnds(int place, int argument) {
            for (int i = 0; i < lastEnds.size(); i++) {
                int end = lastEnds.get(i);
                if (end == NONE || ends.get(END_ROW * end + 1) < argument) {
                    continue;
                }
                int earlier = ends.get(END_ROW * end + 2);
                if (earlier != NONE && ends.get(END_ROW * earlier + 1) > place) {
                    int fan = net.make(FAN, level);
                    net.link(4 * fan + 1, ends.get(END_ROW * earlier));
                    net.link(4 * fan + 2, ends.get(END_ROW * end));
                    ends.set(END_ROW * earlier, 4 * fan);
                    lastEnds.set(i, earlier);
                }
            }
        }
    }

    /**
     * The stacks of a walk, one a level, all empty ones above left out. A stack is a number, and
     * alike ones have the same number: to compare them takes no walk through couples in couples.
     */
    private static final class Stacks {
        private static final int EMPTY = 0;
        private static final int COUPLE = 3;
        private static final int CELL_ROW = 5;
        private static final int MOST_CELLS = MOST_WIRES + 2;
        private static final int SET = 0;
        private static final int INSERT = 1;
        private static final int DROP = 2;

        private final Row levels = new Row(32, MOST_LEVEL + 2 * MOST_CELLS);
        /** Per stack: top's sort, stack below (couple: first), second, a stack on it, its next one. */
        private final Row cells = new Row(20 * CELL_ROW, CELL_ROW * MOST_CELLS);
        /** How to take back each change of a level. */
        private final Row trail = new Row(64, 2 * MOST_CELLS);

        void clear() {
            levels.cut(0);
            trail.cut(0);
            cells.fill(CELL_ROW, 0);
        }

        int at(int level) {
            return levels.get(level);
        }

        void put(int level, int turn) {
            set(level, cell(turn, levels.get(level), EMPTY));
        }

        /** The turn that was on top; 0, if there was none. */
        int take(int level) {
            int top = CELL_ROW * levels.get(level);
            int turn = cells.get(top);
            if (turn == EMPTY || turn == COUPLE) {
                return 0;
            }
            set(level, cells.get(top + 1));
            return turn;
        }

        void open(int level) {
            insert(level, EMPTY);
        }

        boolean close(int level) {
            if (levels.get(level) != EMPTY) {
                return false;
            }
            drop(level);
            return true;
        }

        void couple(int level) {
            int both = cell(COUPLE, levels.get(level), levels.get(level + 1));
            drop(level + 1);
            set(level, both);
        }

        boolean uncouple(int level) {
            int both = CELL_ROW * levels.get(level);
            if (cells.get(both) != COUPLE) {
                return false;
            }
            set(level, cells.get(both + 1));
            insert(level + 1, cells.get(both + 2));
            return true;
        }

        int mark() {
            return trail.size();
        }

        void back(int mark) {
            for (int n = trail.size(); n > mark; n--) {
                int change = trail.takeLast();
                int level = change >> 2 & 255;
                switch (change & 3) {
                    case SET:
                        levels.set(level, change >> 10);
                        break;
                    case INSERT:
                        levels.insert(level, change >> 10);
                        break;
                    default:
                        levels.drop(level);
                        break;
                }
            }
        }

        private int cell(int sort, int below, int second) {
            int known = cells.get(CELL_ROW * below + 3);
            for (int n = 0; known != EMPTY && n < MOST_CELLS; n++) {
                int at = CELL_ROW * known;
                if (cells.get(at) == sort && cells.get(at + 2) == second) {
                    return known;
                }
                known = cells.get(at + 4);
            }
            int made = cells.size() / CELL_ROW;
            cells.add(sort);
            cells.add(below);
            cells.add(second);
            cells.add(EMPTY);
            cells.add(cells.get(CELL_ROW * below + 3));
            cells.set(CELL_ROW * below + 3, made);
            return made;
        }

        private void set(int level, int stack) {
            trail.add(undoing(SET, level, levels.get(level)));
            for (int n = levels.size(); n <= level; n++) {
                levels.add(EMPTY);
            }
            levels.set(level, stack);
        }

        private void insert(int level, int stack) {
            if (stack == EMPTY && level >= levels.size()) {
                return;
            }
            for (int n = levels.size(); n < level; n++) {
                levels.add(EMPTY);
            }
            levels.insert(level, stack);
            trail.add(undoing(DROP, level, EMPTY));
        }

        private void drop(int level) {
            if (level < levels.size()) {
                trail.add(undoing(INSERT, level, levels.get(level)));
                levels.drop(level);
            }
        }

        /** A level is at most 201 here, so a change goes into one number. */
        private static int undoing(int change, int level, int stack) {
            return stack << 10 | level << 2 | change;
        }
    }

    /** The walk from the root by which a net is read and what is wanted is found. */
    private static final class Walk {
        private static final int LOST = -1;
        private static final int END = -2;

        private final Stacks stacks = new Stacks();
        private final Row term = new Row(64, MOST_READ);
        /** Per application whose argument is to come: its node and how all was at it. */
        private final Row waiting = new Row(32, 4 * MOST_READ);
        /** Per function on the way: its node, where what its stacks were begins. */
        private final Row functions = new Row(32, 2 * MOST_READ);
        private final Row stacksThen = new Row(64, MOST_READ * MOST_LEVEL);
        private int wires = 0;
        private int wantedNode = NONE;
        private int wantedWires = 0;
        private boolean read = false;

        boolean isRead() {
            return read;
        }

        Row term() {
            return term;
        }

        int wires() {
            return wires;
        }

        /** The lesser node of the wanted wire. */
        int wantedNode() {
            return wantedNode;
        }

        int wantedWires() {
            return wantedWires;
        }

        /** Walks to the end, or, if not the whole is asked for, up to what is wanted. */
        void go(Net net, boolean whole) {
            stacks.clear();
            term.cut(0);
            waiting.cut(0);
            functions.cut(0);
            stacksThen.cut(0);
            wires = 0;
            wantedNode = NONE;
            wantedWires = 0;
            int from = 0;
            while (from >= 0 && wires <= MOST_WIRES) {
                int to = net.wire(from);
                wires++;
                lookWhetherWanted(from, to);
                if (wantedWires > 0 && !whole) {
                    break;
                }
                from = wires > MOST_WIRES ? LOST : pass(net, to);
            }
            read = from == END;
        }

        private void lookWhetherWanted(int from, int to) {
            boolean heads = from % 4 == 0 && to % 4 == 0;
            if (wantedWires == 0 && heads && from != 0 && to != 0) {
                wantedNode = Math.min(from, to) / 4;
                wantedWires = wires;
            }
        }

        /** The port from which one goes on behind the one that one comes to; END, LOST. */
        private int pass(Net net, int to) {
            int node = to / 4;
            int port = to % 4;
            int level = net.level(node);
            if (level > MOST_LEVEL) {
                return LOST;
            }
            switch (net.kind(node)) {
                case LAM:
                    if (port == 0) {
                        return beginFunction(node, level) ? 4 * node + 1 : LOST;
                    }
                    return port == 2 && readVariable(node, level) ? nextArgument() : LOST;
                case APP:
                    return port == 1 && beginApplication(node) ? 4 * node : LOST;
                case FAN:
                    if (port == 0) {
                        int turn = stacks.take(level);
                        return turn == 0 ? LOST : 4 * node + turn;
                    }
                    stacks.put(level, port);
                    return 4 * node;
                case BRACKET:
                    if (port == 0) {
                        return stacks.uncouple(level) ? 4 * node + 1 : LOST;
                    }
                    stacks.couple(level);
                    return 4 * node;
                case CURL:
                    if (port == 0) {
                        return stacks.close(level) ? 4 * node + 1 : LOST;
                    }
                    stacks.open(level);
                    return 4 * node;
                default:
                    return LOST;
            }
        }

        private boolean beginFunction(int node, int level) {
            functions.add(node);
            functions.add(stacksThen.size());
            for (int i = 0; i < level; i++) {
                stacksThen.add(stacks.at(i));
            }
            return term.add(FUNCTION);
        }

        private boolean beginApplication(int node) {
            waiting.add(node);
            waiting.add(stacks.mark());
            waiting.add(functions.size());
            waiting.add(stacksThen.size());
            return term.add(APPLICATION);
        }

        private boolean readVariable(int node, int level) {
            for (int at = functions.size() - 2; at >= 0; at -= 2) {
                if (functions.get(at) == node && isAsThen(functions.get(at + 1), level)) {
                    return term.add(VARIABLE + (functions.size() - 2 - at) / 2);
                }
            }
            return false;
        }

        private boolean isAsThen(int then, int level) {
            for (int i = 0; i < level; i++) {
                if (stacksThen.get(then + i) != stacks.at(i)) {
                    return false;
                }
            }
            return true;
        }

        private int nextArgument() {
            if (waiting.size() == 0) {
                return END;
            }
            stacksThen.cut(waiting.takeLast());
            functions.cut(waiting.takeLast());
            stacks.back(waiting.takeLast());
            return 4 * waiting.takeLast() + 2;
        }
    }

    /** Works a term off without a net: always the first application of a function. */
    private static final class Plainly {
        private final Row depths = new Row(32, MOST_PLAIN);
        private final Row argumentDepths = new Row(32, MOST_PLAIN);
        private Row now = new Row(64, MOST_PLAIN);
        private Row next = new Row(64, MOST_PLAIN);
        private int rounds = 0;
        private boolean tooMany = false;

        Row term() {
            return now;
        }

        int rounds() {
            return rounds;
        }

        boolean tooMany() {
            return tooMany;
        }

        boolean isAtEnd() {
            return !tooMany && firstRedex() == NONE;
        }

        void workOff(Row term, int most) {
            now.copy(term);
            rounds = 0;
            tooMany = false;
            while (rounds < most && !tooMany) {
                int at = firstRedex();
                if (at == NONE) {
                    return;
                }
                int argument = behindTerm(at + 2);
                int behind = behindTerm(argument);
                next.cut(0);
                tooMany = !keep(0, at) || !putIn(at + 2, argument, behind) || !keep(behind, now.size());
                Row old = now;
                now = next;
                next = old;
                rounds++;
            }
        }

        private int firstRedex() {
            for (int i = 0; i < now.size(); i++) {
                if (isRedex(now, i)) {
                    return i;
                }
            }
            return NONE;
        }

        private int behindTerm(int from) {
            int missing = 1;
            int at = from;
            while (missing > 0 && at < now.size()) {
                int sort = now.get(at);
                missing += sort == APPLICATION ? 1 : sort == FUNCTION ? 0 : -1;
                at++;
            }
            return at;
        }

        private boolean keep(int from, int to) {
            for (int i = from; i < to; i++) {
                if (!next.add(now.get(i))) {
                    return false;
                }
            }
            return true;
        }

        /** What the function gives, with the argument, which lies right behind it, put in. */
        private boolean putIn(int body, int argument, int behind) {
            depths.cut(0);
            int depth = 0;
            for (int i = body; i < argument; i++) {
                int sort = now.get(i);
                boolean fits;
                if (sort < VARIABLE) {
                    fits = next.add(sort);
                } else if (sort == VARIABLE + depth) {
                    fits = putArgument(argument, behind, depth);
                } else {
                    fits = next.add(sort < VARIABLE + depth ? sort : sort - 1);
                }
                if (!fits) {
                    return false;
                }
                depth = depthBehind(sort, depth, depths);
            }
            return true;
        }

        private boolean putArgument(int argument, int behind, int raise) {
            argumentDepths.cut(0);
            int depth = 0;
            for (int i = argument; i < behind; i++) {
                int sort = now.get(i);
                if (!next.add(sort < VARIABLE + depth ? sort : sort + raise)) {
                    return false;
                }
                depth = depthBehind(sort, depth, argumentDepths);
            }
            return true;
        }

        /** How many functions lie around the part behind this one; an argument waits in the row. */
        private static int depthBehind(int sort, int depth, Row waiting) {
            if (sort == APPLICATION) {
                waiting.add(depth);
                return depth;
            }
            return sort == FUNCTION ? depth + 1 : waiting.takeLast();
        }
    }

    /** Tells a term by signs, and keeps them. */
    private static final class Teller {
        private static final int CLOSING = -1;

        private final Row signs = new Row(64, 3 * MOST_PLAIN);
        /** What is to come behind a term: a closing parenthesis, or an argument (its depth). */
        private final Row waiting = new Row(32, 2 * MOST_PLAIN);

        int sign(int i) {
            return i >= 0 && i < signs.size() ? signs.get(i) : NONE;
        }

        int saying(Row term) {
            signs.cut(0);
            waiting.cut(0);
            int depth = 0;
            for (int i = 0; i < term.size(); i++) {
                int sort = term.get(i);
                if (sort == APPLICATION) {
                    waiting.add(depth);
                    if (term.get(i + 1) == FUNCTION) {
                        open();
                    }
                } else if (sort == FUNCTION) {
                    signs.add('\\');
                    signs.add(letter(depth));
                    signs.add('.');
                    depth++;
                } else {
                    signs.add(letter(depth - 1 - (sort - VARIABLE)));
                    depth = goOn(term.get(i + 1));
                }
            }
            return signs.size();
        }

        private void open() {
            signs.add('(');
            waiting.add(CLOSING);
        }

        /** Ends what ends here; then an argument, if one waits, begins: how deep it lies. */
        private int goOn(int sort) {
            for (int n = waiting.size(); n > 0; n--) {
                int depth = waiting.takeLast();
                if (depth != CLOSING) {
                    signs.add(' ');
                    if (sort < VARIABLE) {
                        open();
                    }
                    return depth;
                }
                signs.add(')');
            }
            return 0;
        }

        private static int letter(int depth) {
            return 'a' + Math.floorMod(depth, 26);
        }
    }
}
