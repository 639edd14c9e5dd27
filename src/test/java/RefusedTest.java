import java.util.List;
import java.util.function.Consumer;

/**
 * "Refused, and nothing changes, the first of these: BAD, STATE, FULL": each refusal by its name and
 * in its order. Of two desks made alike one gets the refused call; then both must tell the same of
 * themselves, down to what may be undone, what was kept and what was typed.
 */
public final class RefusedTest {
    private static final Due DUE = new Due();
    private static final int BAD = -1;
    private static final int STATE = -2;
    private static final int FULL = -3;
    private static final long NO = -9000000000000000000L;
    private static final int MIN = Integer.MIN_VALUE;
    private static final int MAX = Integer.MAX_VALUE;

    private interface Asks {
        long of(SpreadDesk x);
    }

    private interface Makes {
        SpreadDesk one();
    }

    private record State(String name, Makes makes) { }

    private static final State NEW = new State("new", SpreadDesk::new);
    private static final State USED = new State("used", RefusedTest::used);
    private static final State FILLED = new State("filled", RefusedTest::filled);
    private static final List<State> ALL = List.of(NEW, USED, FILLED);
    private static final List<Consumer<Sight>> LOOKS =
        List.of(Sight::now, Sight::undone, Sight::kept, Sight::typed);

    public static void main(String[] args) {
        badLetters();
        badSources();
        badFormulas();
        badWhats();
        badFigures();
        badSetsAndMoves();
        badImages();
        stateOfFigures();
        stateOfUndo();
        stateOfBack();
        fullText();
        fullSeen();
        badAheadOfState();
        badAheadOfFull();
        faults();
        askingChangesNothing();
        DUE.end();
    }

    // ---- desks

    private static SpreadDesk used() {
        SpreadDesk x = Due.told("Sa3 4;Sb-2 9;Cab-3;Fa*b^2;F@0-c;");
        x.keep(0);
        x.values(0, 5);
        x.spreads(2, 6);
        x.joints(1, 2, 7);
        x.sees(0, 20);
        x.sees(1, 20);
        Due.type(x, "Sb7 8;Fb");
        return x;
    }

    /** Four formulas, six results seen, ten steps to undo, both images, a text of 100 letters. */
    private static SpreadDesk filled() {
        SpreadDesk x = Due.told("Sa3 4;Sb-2 9;Cab-3;Fa*b^2;F@0-c;Fa-b;F@2*f;");
        x.keep(0);
        for (int v = 1; v <= 4; v++) {
            x.values(v, 5 * v);
            x.spreads(v, 6 * v);
            x.joints(v, 0, 7 * v);
        }
        x.keep(1);
        x.values(5, 8);
        for (int n = 0; n < 6; n++) {
            x.sees(n % 4, 20 - n);
        }
        Due.type(x, "Sb7 8;" + " ".repeat(90) + "Fb;F");
        return x;
    }

    /** What a desk tells of itself, as one text. */
    private static final class Sight {
        private final SpreadDesk x;
        private final StringBuilder told = new StringBuilder();

        Sight(SpreadDesk desk) {
            x = desk;
        }

        private void add(long answer) {
            told.append(answer).append(' ');
        }

        private void figures() {
            for (int s = 0; s < 6; s++) {
                add(x.source(s, 0));
                for (int t = 0; t <= s; t++) {
                    add(x.joint(t, s));
                }
            }
        }

        void now() {
            figures();
            for (int f = 0; f < 4; f++) {
                add(x.value(f));
                add(x.whole(f));
                for (int what = 0; what < 3; what++) {
                    add(x.formula(f, what));
                }
                for (int s = 0; s < 6; s++) {
                    add(x.slope(f, s));
                }
            }
            for (int d = -20; d <= 20; d++) {
                add(x.unseen(d));
            }
            for (int what = 0; what < 4; what++) {
                add(x.count(what));
            }
        }

        void undone() {
            for (int i = 0; i < 11; i++) {
                add(x.undo());
                if (i < 3 || i > 7) {
                    figures();
                }
            }
        }

        void kept() {
            for (int image = 0; image < 2; image++) {
                add(x.back(image));
                figures();
            }
            add(x.count(3));
            add(x.count(1));
        }

        void typed() {
            add(x.type(';'));
            add(x.desk());
            add(x.clear());
            figures();
            for (int f = 0; f < 4; f++) {
                add(x.value(f));
            }
        }
    }

    private static String sight(SpreadDesk x, Consumer<Sight> look) {
        Sight sight = new Sight(x);
        look.accept(sight);
        return sight.told.toString();
    }

    private static void changesNothing(String name, Makes makes, Asks call) {
        for (Consumer<Sight> look : LOOKS) {
            SpreadDesk asked = makes.one();
            call.of(asked);
            boolean alike = sight(asked, look).equals(sight(makes.one(), look));
            DUE.is(name + " leaves all (look " + LOOKS.indexOf(look) + ")", alike ? 1 : 0, 1);
        }
    }

    private static void refused(String name, State state, Asks call, long due) {
        String full = name + " on one " + state.name;
        DUE.is(full, call.of(state.makes.one()), due);
        changesNothing(full, state.makes, call);
    }

    private static void refused(String name, Asks call, long due) {
        for (State state : ALL) {
            refused(name, state, call, due);
        }
    }

    // ---- BAD

    private static void badLetters() {
        DUE.about("BAD letters");
        for (int letter : new int[] {-1, 256, MIN, MAX}) {
            refused("type(" + letter + ")", x -> x.type(letter), BAD);
        }
    }

    private static void badSources() {
        DUE.about("BAD sources");
        for (Calls.One call : Calls.BY_SOURCE) {
            for (int n : new int[] {-1, 6, MIN, MAX}) {
                refused(call.name() + " of " + n, x -> call.asks().of(x, n), call.refusal());
            }
        }
    }

    private static void badFormulas() {
        DUE.about("BAD formulas");
        for (Calls.One call : Calls.BY_FORMULA) {
            for (int n : new int[] {-1, 4, MIN, MAX}) {
                refused(call.name() + " of " + n, x -> call.asks().of(x, n), call.refusal());
            }
            refused(call.name() + " of 0", NEW, x -> call.asks().of(x, 0), call.refusal());
            refused(call.name() + " of 2", USED, x -> call.asks().of(x, 2), call.refusal());
        }
    }

    private static void badWhats() {
        DUE.about("BAD what");
        for (int below : new int[] {-1, MIN}) {
            whats(below, below, below, below);
        }
        whats(2, 2, 3, 4);
        whats(MAX, MAX, MAX, MAX);
    }

    private static void whats(int ofSource, int ofFirst, int ofFormula, int ofCount) {
        refused("source(0, " + ofSource + ")", x -> x.source(0, ofSource), NO);
        refused("first(0, " + ofFirst + ")", x -> x.first(0, ofFirst), BAD);
        refused("formula(0, " + ofFormula + ")", x -> x.formula(0, ofFormula), BAD);
        refused("count(" + ofCount + ")", x -> x.count(ofCount), BAD);
    }

    private static void badFigures() {
        DUE.about("BAD values, spreads, joints");
        for (int v : new int[] {-100, 100, MIN, MAX}) {
            refused("values(0, " + v + ")", x -> x.values(0, v), BAD);
            refused("joints(0, 1, " + v + ")", x -> x.joints(0, 1, v), BAD);
        }
        for (int v : new int[] {-1, 100, MIN, MAX}) {
            refused("spreads(0, " + v + ")", x -> x.spreads(0, v), BAD);
        }
        for (int s = 0; s < 6; s++) {
            int same = s;
            refused("joints(s, s, 1)", x -> x.joints(same, same, 1), BAD);
        }
    }

    private static void badSetsAndMoves() {
        DUE.about("BAD sets, d");
        for (int set : new int[] {-1, 64, MIN, MAX}) {
            refused("left(0, " + set + ")", x -> x.left(0, set), NO);
        }
        for (int d : new int[] {-21, 21, MIN, MAX}) {
            refused("off(0, 0, " + d + ")", x -> x.off(0, 0, d), NO);
            refused("unseen(" + d + ")", x -> x.unseen(d), BAD);
        }
    }

    private static void badImages() {
        DUE.about("BAD images");
        for (int image : new int[] {-1, 2, MIN, MAX}) {
            refused("keep(" + image + ")", x -> x.keep(image), BAD);
            refused("back(" + image + ")", x -> x.back(image), BAD);
        }
    }

    // ---- STATE

    private static void stateOfFigures() {
        DUE.about("STATE: it is that");
        for (State state : ALL) {
            for (int s = 0; s < 6; s++) {
                int source = s;
                int value = (int) state.makes.one().source(s, 0);
                refused("values(s, " + value + ")", state, x -> x.values(source, value), STATE);
                for (int t = 0; t < 6; t++) {
                    int other = t;
                    int joint = (int) state.makes.one().joint(s, t);
                    if (s != t) {
                        refused("joints(s, t, " + joint + ")", state, x -> x.joints(source, other, joint), STATE);
                    }
                }
            }
        }
    }

    private static void stateOfUndo() {
        DUE.about("STATE: none to be undone");
        refused("undo()", NEW, x -> x.undo(), STATE);
        State back = new State("that went back", () -> {
            SpreadDesk x = filled();
            x.back(1);
            return x;
        });
        refused("undo()", back, x -> x.undo(), STATE);
        State undone = new State("all undone", () -> {
            SpreadDesk x = used();
            for (int i = 0; i < 3; i++) {
                x.undo();
            }
            return x;
        });
        refused("undo()", undone, x -> x.undo(), STATE);
    }

    private static void stateOfBack() {
        DUE.about("STATE: none was kept");
        refused("back(0)", NEW, x -> x.back(0), STATE);
        refused("back(1)", NEW, x -> x.back(1), STATE);
        refused("back(1)", USED, x -> x.back(1), STATE);
        State anew = new State("told anew", () -> {
            SpreadDesk x = filled();
            Due.tell(x, "Sa1 2;Fa;");
            x.values(0, 3);
            return x;
        });
        refused("back(0)", anew, x -> x.back(0), STATE);
        refused("back(1)", anew, x -> x.back(1), STATE);
    }

    // ---- FULL

    private static void fullText() {
        DUE.about("FULL: THE TEXT");
        for (int letter : new int[] {0, ' ', ';', 'F', 255}) {
            refused("type(" + letter + ")", FILLED, x -> x.type(letter), FULL);
        }
    }

    private static void fullSeen() {
        DUE.about("FULL: SEEN");
        for (int f = 0; f < 4; f++) {
            int formula = f;
            refused("sees(" + f + ", 0)", FILLED, x -> x.sees(formula, 0), FULL);
            refused("sees(" + f + ", min)", FILLED, x -> x.sees(formula, Long.MIN_VALUE), FULL);
        }
    }

    // ---- the order

    private static void badAheadOfState() {
        DUE.about("BAD ahead of STATE");
        for (int s = 0; s < 6; s++) {
            int same = s;
            int spread = (int) filled().joint(s, s);
            refused("joints(s, s, SPREAD)", FILLED, x -> x.joints(same, same, spread), BAD);
            refused("joints(s, s, 0)", NEW, x -> x.joints(same, same, 0), BAD);
        }
        refused("values(6, 0)", NEW, x -> x.values(6, 0), BAD);
        refused("joints(0, 6, 0)", NEW, x -> x.joints(0, 6, 0), BAD);
        refused("joints(6, 0, 0)", NEW, x -> x.joints(6, 0, 0), BAD);
        refused("back(2)", NEW, x -> x.back(2), BAD);
        refused("back(-1)", NEW, x -> x.back(-1), BAD);
    }

    private static void badAheadOfFull() {
        DUE.about("BAD ahead of FULL");
        refused("type(256)", FILLED, x -> x.type(256), BAD);
        refused("type(-1)", FILLED, x -> x.type(-1), BAD);
        refused("sees(4, 0)", FILLED, x -> x.sees(4, 0), BAD);
        refused("sees(-1, 0)", FILLED, x -> x.sees(-1, 0), BAD);
    }

    // ---- what else leaves all as it was

    private static void faults() {
        DUE.about("-10 less FAULT: nothing changes");
        refused("desk()", USED, x -> x.desk(), -10 - 8);
        refused("desk()", FILLED, x -> x.desk(), -10 - 100);
        String[] texts = {"S", "Sa50 60;$", "Sa50 60;Cab70;Caa1;", "Sa50 60", "Cab70;Cab100;", "Fa;Fb;Fc;Fd;Fe;",
            "Fa+b+c+d;F@1;", "Sa50 60;Fa^5;", "F((((((((a+(b;", "Sf1 2;F" + "-".repeat(20) + "a;", "Fd;Fe;F",
            ";", "Sa1 2;Sa3 400;"};
        int[] places = {1, 8, 16, 7, 9, 12, 11, 11, 11, 27, 7, 0, 10};
        for (int i = 0; i < texts.length; i++) {
            String text = texts[i];
            for (State before : List.of(USED, FILLED)) {
                State state = new State(before.name + " with " + text, () -> {
                    SpreadDesk x = before.makes.one();
                    x.clear();
                    Due.type(x, text);
                    return x;
                });
                refused("desk()", state, x -> x.desk(), -10 - places[i]);
            }
        }
    }

    private static void askingChangesNothing() {
        DUE.about("Nothing is changed");
        for (State state : ALL) {
            Makes makes = state.makes;
            for (Calls.One call : Calls.BY_SOURCE) {
                boolean asks = !call.name().startsWith("values") && !call.name().startsWith("spreads")
                    && !call.name().startsWith("joints");
                for (int n = 0; n < 6 && asks; n++) {
                    int source = n;
                    changesNothing(call.name() + " of " + n, makes, x -> call.asks().of(x, source));
                }
            }
            for (Calls.One call : Calls.BY_FORMULA) {
                for (int n = 0; n < 4 && !call.name().startsWith("sees"); n++) {
                    int formula = n;
                    changesNothing(call.name() + " of " + n, makes, x -> call.asks().of(x, formula));
                }
            }
            for (int set = 0; set < 64; set++) {
                int sure = set;
                changesNothing("left(1, " + set + ")", makes, x -> x.left(1, sure));
            }
            for (int d : new int[] {-20, -1, 0, 1, 20}) {
                changesNothing("off(1, 1, " + d + ")", makes, x -> x.off(1, 1, d));
                changesNothing("unseen(" + d + ")", makes, x -> x.unseen(d));
            }
            for (int what = 0; what < 4; what++) {
                int itsWhat = what;
                changesNothing("count(" + what + ")", makes, x -> x.count(itsWhat));
            }
            changesNothing("fewest(1, 0)", makes, x -> x.fewest(1, 0));
            changesNothing("fewest(1, -1)", makes, x -> x.fewest(1, -1));
        }
    }
}
