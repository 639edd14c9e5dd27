/** A desk of spreads: sources, formulas over them, and how spreads come through to first order. */
public final class SpreadDesk {
    public static final int BAD = -1, STATE = -2, FULL = -3, NONE = -9;
    public static final long NO = -9000000000000000000L;

    private static final int SOURCES = 6;
    private static final int SETS = 64;
    private static final int MOST_VALUE = 99;
    private static final int MOST_MOVE = 20;
    private static final int LETTERS = 100;
    private static final int FORMULAS = 4;
    private static final int NODES = 20;
    private static final int ALL_NODES = FORMULAS * NODES;
    private static final int OPEN = 8;
    private static final int MOST_POWER = 4;
    private static final int STEPS_BACK = 10;
    private static final int SEEN = 6;
    private static final int FAULT = -1;

    private static final int NUMBER = 0;
    private static final int SOURCE = 1;
    private static final int EARLIER = 2;
    private static final int PLUS = 3;
    private static final int LESS = 4;
    private static final int TIMES = 5;
    private static final int POWER = 6;
    private static final int MINUS = 7;

    private final Figures figures;
    private final Tape tape;
    private final Reader reader;
    private final Past past;
    private final Sweep sweep;
    private final Figures image0;
    private final Figures image1;
    private boolean kept0;
    private boolean kept1;
    private final int[] seenFormula;
    private final long[] seenValue;
    private int seen;
    private final long[] slopes;
    private final long[] otherSlopes;

    public SpreadDesk() {
        figures = new Figures();
        tape = new Tape();
        reader = new Reader();
        past = new Past();
        sweep = new Sweep(tape, figures);
        image0 = new Figures();
        image1 = new Figures();
        seenFormula = new int[SEEN];
        seenValue = new long[SEEN];
        slopes = new long[SOURCES];
        otherSlopes = new long[SOURCES];
    }

    // ---- what is told

    public int type(int letter) {
        if (letter < 0 || letter > 255) {
            return BAD;
        }
        return reader.add(letter) ? reader.letters() : FULL;
    }

    public int clear() {
        int had = reader.letters();
        reader.drop();
        return had;
    }

    public int desk() {
        int items = reader.read();
        if (items < 0) {
            return items;
        }
        figures.take(reader.figures);
        tape.take(reader.tape);
        reader.drop();
        past.lose();
        seen = 0;
        kept0 = false;
        kept1 = false;
        return items;
    }

    public long source(int s, int what) {
        if (!isSource(s) || what < 0 || what > 1) {
            return NO;
        }
        return what == 0 ? figures.worth(s) : figures.spread(s, s);
    }

    public long joint(int s, int t) {
        return isSource(s) && isSource(t) ? figures.spread(s, t) : NO;
    }

    // ---- what is done

    public int values(int s, int v) {
        if (!isSource(s) || v < -MOST_VALUE || v > MOST_VALUE) {
            return BAD;
        }
        int was = figures.worth(s);
        if (was == v) {
            return STATE;
        }
        past.add(s, Past.WORTH, was);
        figures.setWorth(s, v);
        return 1;
    }

    public int spreads(int s, int v) {
        if (!isSource(s) || v < 0 || v > MOST_VALUE) {
            return BAD;
        }
        int was = figures.spread(s, s);
        past.add(s, s, was);
        figures.setSpread(s, s, v);
        return was;
    }

    public int joints(int s, int t, int v) {
        if (!isSource(s) || !isSource(t) || s == t || v < -MOST_VALUE || v > MOST_VALUE) {
            return BAD;
        }
        int was = figures.spread(s, t);
        if (was == v) {
            return STATE;
        }
        past.add(s, t, was);
        figures.setSpread(s, t, v);
        return 1;
    }

    public int undo() {
        return past.takeBack(figures) ? past.known() : STATE;
    }

    // ---- formulas

    public long value(int f) {
        return isTold(f) ? sweep.worth(f, 0, 0) : NO;
    }

    public long slope(int f, int s) {
        return isTold(f) && isSource(s) ? sweep.slopeBy(f, s) : NO;
    }

    public long bend(int f, int s, int t) {
        return isTold(f) && isSource(s) && isSource(t) ? sweep.bendBy(f, s, t) : NO;
    }

    public long whole(int f) {
        return isTold(f) ? remains(f, 0) : NO;
    }

    public long together(int f, int g) {
        if (!isTold(f) || !isTold(g)) {
            return NO;
        }
        sweep.slopesInto(slopes, f);
        sweep.slopesInto(otherSlopes, g);
        return product(slopes, otherSlopes, 0);
    }

    public long share(int f, int s) {
        if (!isTold(f) || !isSource(s)) {
            return NO;
        }
        sweep.slopesInto(slopes, f);
        return part(slopes, slopes, s, 0);
    }

    // ---- sure sources

    public long left(int f, int set) {
        return isTold(f) && set >= 0 && set < SETS ? remains(f, set) : NO;
    }

    public int fewest(int f, long limit) {
        if (!isTold(f)) {
            return BAD;
        }
        sweep.slopesInto(slopes, f);
        int best = NONE;
        for (int set = 0; set < SETS; set++) {
            boolean fewer = best == NONE || Integer.bitCount(set) < Integer.bitCount(best);
            if (fewer && product(slopes, slopes, set) <= limit) {
                best = set;
            }
        }
        return best;
    }

    public long takes(int f, int s) {
        if (!isTold(f) || !isSource(s)) {
            return NO;
        }
        sweep.slopesInto(slopes, f);
        return taken(s);
    }

    public int first(int f, int what) {
        if (!isTold(f) || what < 0 || what > 1) {
            return BAD;
        }
        sweep.slopesInto(slopes, f);
        int best = 0;
        long most = 0;
        for (int s = 0; s < SOURCES; s++) {
            long its = what == 0 ? taken(s) : part(slopes, slopes, s, 0);
            if (s == 0 || its > most) {
                best = s;
                most = its;
            }
        }
        return best;
    }

    public long off(int f, int s, int d) {
        if (!isTold(f) || !isSource(s) || !isMove(d)) {
            return NO;
        }
        long moved = sweep.worth(f, s, d);
        long slope = sweep.slopeBy(f, s);
        return moved - sweep.worth(f, s, 0) - d * slope;
    }

    // ---- which source

    public int sees(int f, long value) {
        if (!isTold(f)) {
            return BAD;
        }
        if (seen < 0 || seen >= SEEN) {
            return FULL;
        }
        seenFormula[seen] = f;
        seenValue[seen] = value;
        seen++;
        return seen;
    }

    public int forget() {
        int had = seen;
        seen = 0;
        return had;
    }

    public int unseen(int d) {
        if (!isMove(d)) {
            return BAD;
        }
        int set = 0;
        for (int s = 0; s < SOURCES; s++) {
            if (explains(s, d)) {
                set |= 1 << s;
            }
        }
        return set;
    }

    // ---- images

    public int keep(int image) {
        if (image == 0) {
            image0.take(figures);
            kept0 = true;
            return tape.formulas();
        }
        if (image == 1) {
            image1.take(figures);
            kept1 = true;
            return tape.formulas();
        }
        return BAD;
    }

    public int back(int image) {
        if (image < 0 || image > 1) {
            return BAD;
        }
        if (image == 0 ? !kept0 : !kept1) {
            return STATE;
        }
        figures.take(image == 0 ? image0 : image1);
        past.lose();
        return tape.formulas();
    }

    public int formula(int f, int what) {
        if (!isTold(f)) {
            return BAD;
        }
        switch (what) {
            case 0:
                return tape.stop(f) - tape.start(f);
            case 1:
                return tape.steps(tape.root(f));
            case 2:
                return tape.names(tape.root(f));
            default:
                return BAD;
        }
    }

    public int count(int what) {
        switch (what) {
            case 0:
                return tape.formulas();
            case 1:
                return seen;
            case 2:
                return reader.letters();
            case 3:
                return past.known();
            default:
                return BAD;
        }
    }

    private static boolean isSource(int s) {
        return s >= 0 && s < SOURCES;
    }

    private static boolean isMove(int d) {
        return d >= -MOST_MOVE && d <= MOST_MOVE;
    }

    private boolean isTold(int f) {
        return f >= 0 && f < tape.formulas();
    }

    private long remains(int f, int sure) {
        sweep.slopesInto(slopes, f);
        return product(slopes, slopes, sure);
    }

    private long taken(int s) {
        return product(slopes, slopes, 0) - product(slopes, slopes, 1 << s);
    }

    /** Of all twos of sources that are not sure: slope, other slope and joint, summed. */
    private long product(long[] p, long[] q, int sure) {
        long sum = 0;
        for (int s = 0; s < SOURCES; s++) {
            if ((sure >> s & 1) == 0) {
                sum += part(p, q, s, sure);
            }
        }
        return sum;
    }

    private long part(long[] p, long[] q, int s, int sure) {
        if (s < 0 || s >= p.length) {
            return 0;
        }
        long sum = 0;
        for (int t = 0; t < SOURCES && t < q.length; t++) {
            if ((sure >> t & 1) == 0) {
                sum += p[s] * q[t] * figures.spread(s, t);
            }
        }
        return sum;
    }

    private boolean explains(int s, int d) {
        for (int i = 0; i < seen && i < SEEN; i++) {
            if (sweep.worth(seenFormula[i], s, d) != seenValue[i]) {
                return false;
            }
        }
        return true;
    }

    /** Values, spreads and joints; a source's spread stands as its joint with itself. */
    private static final class Figures {
        private final int[] worth;
        private final int[] spread;

        Figures() {
            worth = new int[SOURCES];
            spread = new int[SOURCES * SOURCES];
        }

        int worth(int s) {
            return isSource(s) ? worth[s] : 0;
        }

        int spread(int s, int t) {
            return isSource(s) && isSource(t) ? spread[s * SOURCES + t] : 0;
        }

        void setWorth(int s, int v) {
            if (isSource(s)) {
                worth[s] = v;
            }
        }

        /** Both ways, so that no reader need order the two. */
        void setSpread(int s, int t, int v) {
            if (isSource(s) && isSource(t)) {
                spread[s * SOURCES + t] = v;
                spread[t * SOURCES + s] = v;
            }
        }

        void reset() {
            for (int i = 0; i < SOURCES; i++) {
                worth[i] = 0;
            }
            for (int i = 0; i < SOURCES * SOURCES; i++) {
                spread[i] = 0;
            }
        }

        void take(Figures from) {
            for (int i = 0; i < SOURCES; i++) {
                worth[i] = from.worth[i];
            }
            for (int i = 0; i < SOURCES * SOURCES; i++) {
                spread[i] = from.spread[i];
            }
        }
    }

    /** What may be undone, the latest last. */
    private static final class Past {
        /** Stands where the second source would: a value was set, not a spread or joint. */
        private static final int WORTH = -1;

        private final int[] source;
        private final int[] other;
        private final int[] was;
        private int known;

        Past() {
            source = new int[STEPS_BACK];
            other = new int[STEPS_BACK];
            was = new int[STEPS_BACK];
        }

        int known() {
            return known;
        }

        void lose() {
            known = 0;
        }

        void add(int s, int t, int old) {
            if (known >= STEPS_BACK) {
                loseOldest();
            }
            if (known >= 0 && known < STEPS_BACK) {
                source[known] = s;
                other[known] = t;
                was[known] = old;
                known++;
            }
        }

        boolean takeBack(Figures figures) {
            int latest = known - 1;
            if (latest < 0 || latest >= STEPS_BACK) {
                return false;
            }
            known = latest;
            if (other[latest] == WORTH) {
                figures.setWorth(source[latest], was[latest]);
            } else {
                figures.setSpread(source[latest], other[latest], was[latest]);
            }
            return true;
        }

        private void loseOldest() {
            for (int i = 1; i < STEPS_BACK; i++) {
                source[i - 1] = source[i];
                other[i - 1] = other[i];
                was[i - 1] = was[i];
            }
            known = STEPS_BACK - 1;
        }
    }

    /**
     * The nodes of all formulas in one row, operands ahead of what is made of them and each
     * formula's root last: so one walk from the row's start answers for any formula, and @ costs
     * no second walk.
     */
    private static final class Tape {
        private final int[] kind;
        /** A number, a source, or an operand's place in the row. */
        private final int[] one;
        /** The second operand's place, or the power. */
        private final int[] other;
        private final int[] steps;
        private final int[] names;
        private final int[] stop;
        private int formulas;
        private int length;

        Tape() {
            kind = new int[ALL_NODES];
            one = new int[ALL_NODES];
            other = new int[ALL_NODES];
            steps = new int[ALL_NODES];
            names = new int[ALL_NODES];
            stop = new int[FORMULAS];
        }

        int formulas() {
            return formulas;
        }

        int start(int f) {
            return stop(f - 1);
        }

        int stop(int f) {
            return f >= 0 && f < FORMULAS ? stop[f] : 0;
        }

        int root(int f) {
            return stop(f) - 1;
        }

        int steps(int node) {
            return node >= 0 && node < ALL_NODES ? steps[node] : 0;
        }

        int names(int node) {
            return node >= 0 && node < ALL_NODES ? names[node] : 0;
        }

        void reset() {
            formulas = 0;
            length = 0;
        }

        void endFormula() {
            if (formulas >= 0 && formulas < FORMULAS) {
                stop[formulas] = length;
                formulas++;
            }
        }

        int addNumber(int number) {
            return add(NUMBER, number, 0, 1, 0);
        }

        int addSource(int s) {
            return add(SOURCE, s, 0, 1, 1 << s);
        }

        int addOver(int what, int node, int power) {
            return add(what, node, power, 1 + steps(node), names(node));
        }

        int addBoth(int what, int a, int b) {
            return add(what, a, b, 1 + steps(a) + steps(b), names(a) | names(b));
        }

        void take(Tape from) {
            for (int i = 0; i < ALL_NODES; i++) {
                kind[i] = from.kind[i];
                one[i] = from.one[i];
                other[i] = from.other[i];
                steps[i] = from.steps[i];
                names[i] = from.names[i];
            }
            for (int f = 0; f < FORMULAS; f++) {
                stop[f] = from.stop[f];
            }
            formulas = from.formulas;
            length = from.length;
        }

        private int add(int what, int first, int second, int itsSteps, int itsNames) {
            int node = length;
            if (node < 0 || node >= ALL_NODES) {
                return FAULT;
            }
            kind[node] = what;
            one[node] = first;
            other[node] = second;
            steps[node] = itsSteps;
            names[node] = itsNames;
            length = node + 1;
            return node;
        }
    }

    /** Walks along the tape: each row holds, node by node, what the walk before it left there. */
    private static final class Sweep {
        private final Tape tape;
        private final Figures figures;
        private final long[] worth;
        private final long[] slope;
        private final long[] otherSlope;
        private final long[] bend;

        Sweep(Tape itsTape, Figures itsFigures) {
            tape = itsTape;
            figures = itsFigures;
            worth = new long[ALL_NODES];
            slope = new long[ALL_NODES];
            otherSlope = new long[ALL_NODES];
            bend = new long[ALL_NODES];
        }

        /** A formula's value, were source s d more. */
        long worth(int f, int s, int d) {
            walkWorth(tape.stop(f), s, d);
            return at(worth, tape.root(f));
        }

        long slopeBy(int f, int s) {
            walkWorth(tape.stop(f), s, 0);
            walkSlope(slope, tape.stop(f), s);
            return at(slope, tape.root(f));
        }

        long bendBy(int f, int s, int t) {
            int stop = tape.stop(f);
            walkWorth(stop, s, 0);
            walkSlope(slope, stop, s);
            walkSlope(otherSlope, stop, t);
            walkBend(stop);
            return at(bend, tape.root(f));
        }

        void slopesInto(long[] into, int f) {
            int stop = tape.stop(f);
            walkWorth(stop, 0, 0);
            for (int s = 0; s < SOURCES && s < into.length; s++) {
                walkSlope(slope, stop, s);
                into[s] = at(slope, tape.root(f));
            }
        }

        private void walkWorth(int stop, int s, int d) {
            for (int i = 0; i < stop && i < ALL_NODES; i++) {
                worth[i] = worthOf(i, s, d);
            }
        }

        private long worthOf(int i, int s, int d) {
            int a = tape.one[i];
            int b = tape.other[i];
            switch (tape.kind[i]) {
                case NUMBER:
                    return a;
                case SOURCE:
                    return figures.worth(a) + (a == s ? d : 0);
                case PLUS:
                    return at(worth, a) + at(worth, b);
                case LESS:
                    return at(worth, a) - at(worth, b);
                case TIMES:
                    return at(worth, a) * at(worth, b);
                case POWER:
                    return power(at(worth, a), b);
                case MINUS:
                    return -at(worth, a);
                case EARLIER:
                default:
                    return at(worth, a);
            }
        }

        private void walkSlope(long[] row, int stop, int s) {
            for (int i = 0; i < stop && i < row.length && i < ALL_NODES; i++) {
                row[i] = slopeOf(row, i, s);
            }
        }

        private long slopeOf(long[] row, int i, int s) {
            int a = tape.one[i];
            int b = tape.other[i];
            switch (tape.kind[i]) {
                case NUMBER:
                    return 0;
                case SOURCE:
                    return a == s ? 1 : 0;
                case PLUS:
                    return at(row, a) + at(row, b);
                case LESS:
                    return at(row, a) - at(row, b);
                case TIMES:
                    return at(row, a) * at(worth, b) + at(worth, a) * at(row, b);
                case POWER:
                    return b * power(at(worth, a), b - 1) * at(row, a);
                case MINUS:
                    return -at(row, a);
                case EARLIER:
                default:
                    return at(row, a);
            }
        }

        private void walkBend(int stop) {
            for (int i = 0; i < stop && i < ALL_NODES; i++) {
                bend[i] = bendOf(i);
            }
        }

        private long bendOf(int i) {
            int a = tape.one[i];
            int b = tape.other[i];
            switch (tape.kind[i]) {
                case NUMBER:
                case SOURCE:
                    return 0;
                case PLUS:
                    return at(bend, a) + at(bend, b);
                case LESS:
                    return at(bend, a) - at(bend, b);
                case TIMES:
                    return at(bend, a) * at(worth, b) + at(worth, a) * at(bend, b)
                        + at(slope, a) * at(otherSlope, b) + at(otherSlope, a) * at(slope, b);
                case POWER:
                    return b * power(at(worth, a), b - 1) * at(bend, a)
                        + b * (b - 1) * power(at(worth, a), b - 2) * at(slope, a) * at(otherSlope, a);
                case MINUS:
                    return -at(bend, a);
                case EARLIER:
                default:
                    return at(bend, a);
            }
        }

        /** 1 where the exponent is below 0: slopes ask for it there only to take it 0 times. */
        private static long power(long base, int exponent) {
            long product = 1;
            for (int i = 0; i < exponent && i < MOST_POWER; i++) {
                product *= base;
            }
            return product;
        }

        private static long at(long[] row, int i) {
            return i >= 0 && i < row.length ? row[i] : 0;
        }
    }

    /**
     * The text, and what it tells. A token that can't stand where it is is never passed, so at a
     * fault the token at hand is always the one to blame.
     */
    private static final class Reader {
        private static final int END = -1;
        private static final int DIGITS = -2;
        private static final int WRONG = -3;

        private final Figures figures;
        private final Tape tape;
        private final int[] letter;
        private int length;
        private int token;
        private int place;
        private int behind;
        private int number;
        private int nodes;

        Reader() {
            figures = new Figures();
            tape = new Tape();
            letter = new int[LETTERS];
        }

        int letters() {
            return length;
        }

        void drop() {
            length = 0;
        }

        boolean add(int sign) {
            if (length < 0 || length >= LETTERS) {
                return false;
            }
            letter[length] = sign;
            length++;
            return true;
        }

        /** How many items, or -10 less the fault; the figures and the tape are then half told. */
        int read() {
            figures.reset();
            tape.reset();
            behind = 0;
            pass();
            int items = 0;
            while (token != END && items < LETTERS) {
                if (!readItem()) {
                    return -10 - place;
                }
                items++;
            }
            return items;
        }

        private boolean readItem() {
            boolean good = false;
            if (token == 'S') {
                good = readSource();
            } else if (token == 'C') {
                good = readJoint();
            } else if (token == 'F') {
                good = readFormula();
            }
            if (!good || token != ';') {
                return false;
            }
            pass();
            return true;
        }

        private boolean readSource() {
            pass();
            int s = sourceAtHand();
            if (!isSource(s)) {
                return false;
            }
            pass();
            int sign = passSign();
            if (token != DIGITS) {
                return false;
            }
            figures.setWorth(s, sign * number);
            pass();
            if (token != DIGITS) {
                return false;
            }
            figures.setSpread(s, s, number);
            pass();
            return true;
        }

        private boolean readJoint() {
            pass();
            int s = sourceAtHand();
            if (!isSource(s)) {
                return false;
            }
            pass();
            int t = sourceAtHand();
            if (!isSource(t) || t == s) {
                return false;
            }
            pass();
            int sign = passSign();
            if (token != DIGITS) {
                return false;
            }
            figures.setSpread(s, t, sign * number);
            pass();
            return true;
        }

        private boolean readFormula() {
            if (tape.formulas() >= FORMULAS) {
                return false;
            }
            pass();
            nodes = 0;
            if (readSum(0) == FAULT || token != ';') {
                return false;
            }
            tape.endFormula();
            return true;
        }

        private int readSum(int depth) {
            int node = readProduct(depth);
            for (int i = 0; i < NODES && node != FAULT && (token == '+' || token == '-'); i++) {
                int kind = token == '+' ? PLUS : LESS;
                if (!countNode()) {
                    return FAULT;
                }
                pass();
                int next = readProduct(depth);
                node = next == FAULT ? FAULT : tape.addBoth(kind, node, next);
            }
            return node;
        }

        private int readProduct(int depth) {
            int node = readPower(depth);
            for (int i = 0; i < NODES && node != FAULT && token == '*'; i++) {
                if (!countNode()) {
                    return FAULT;
                }
                pass();
                int next = readPower(depth);
                node = next == FAULT ? FAULT : tape.addBoth(TIMES, node, next);
            }
            return node;
        }

        private int readPower(int depth) {
            int node = readPart(depth);
            if (node == FAULT || token != '^') {
                return node;
            }
            if (!countNode()) {
                return FAULT;
            }
            pass();
            if (token != DIGITS || number > MOST_POWER) {
                return FAULT;
            }
            node = tape.addOver(POWER, node, number);
            pass();
            return node;
        }

        /** The signs ahead bind closer than ^ does: -a^2 is (-a)^2. */
        private int readPart(int depth) {
            int signs = 0;
            while (token == '-' && signs < NODES) {
                if (!countNode()) {
                    return FAULT;
                }
                signs++;
                pass();
            }
            int node = readBarePart(depth);
            for (int i = 0; i < signs && node != FAULT; i++) {
                node = tape.addOver(MINUS, node, 0);
            }
            return node;
        }

        private int readBarePart(int depth) {
            if (token == '(') {
                return readInner(depth);
            }
            if (token == '@') {
                return readEarlier();
            }
            int s = sourceAtHand();
            if (token != DIGITS && !isSource(s) || !countNode()) {
                return FAULT;
            }
            int node = token == DIGITS ? tape.addNumber(number) : tape.addSource(s);
            pass();
            return node;
        }

        private int readInner(int depth) {
            if (depth >= OPEN) {
                return FAULT;
            }
            pass();
            int node = readSum(depth + 1);
            if (node == FAULT || token != ')') {
                return FAULT;
            }
            pass();
            return node;
        }

        private int readEarlier() {
            if (!countNode()) {
                return FAULT;
            }
            pass();
            if (token != DIGITS || number >= tape.formulas()) {
                return FAULT;
            }
            int node = tape.addOver(EARLIER, tape.root(number), 0);
            pass();
            return node;
        }

        private boolean countNode() {
            if (nodes >= NODES) {
                return false;
            }
            nodes++;
            return true;
        }

        private int passSign() {
            if (token != '-') {
                return 1;
            }
            pass();
            return -1;
        }

        private int sourceAtHand() {
            return token - 'a';
        }

        /** To the next token; letters that are none pass as themselves, for nothing asks for them. */
        private void pass() {
            int from = behind;
            while (from >= 0 && from < length && from < LETTERS && letter[from] == ' ') {
                from++;
            }
            place = from;
            behind = from + 1;
            if (from < 0 || from >= length || from >= LETTERS) {
                token = END;
                behind = from;
            } else if (isDigit(letter[from])) {
                passDigits(letter[from] - '0');
            } else {
                token = letter[from];
            }
        }

        /** Two digits are as many as a number has; of more the value is of no use. */
        private void passDigits(int ahead) {
            int digits = 1;
            number = ahead;
            while (behind >= 0 && behind < length && behind < LETTERS && isDigit(letter[behind])) {
                number = ahead * 10 + letter[behind] - '0';
                digits++;
                behind++;
            }
            token = digits == 1 || digits == 2 && ahead != 0 ? DIGITS : WRONG;
        }

        private static boolean isDigit(int sign) {
            return sign >= '0' && sign <= '9';
        }
    }
}
