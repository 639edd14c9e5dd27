/** Long runs of calls on SpreadDesk and on the model, which must answer alike. */
public final class ModelTest {
    private static final Due DUE = new Due();
    private static final int RUNS = 3000;
    private static final int CALLS = 512;
    private static final int[] EXTREMES = {Integer.MIN_VALUE, -100, -21, -2, -1, 4, 6, 7, 21, 64, 100,
        256, Integer.MAX_VALUE};

    private static long state = 20261118;
    private static int good;
    private static int faulty;

    /** A fixed row of numbers, so that every run of the test is the same. */
    private static int below(int bound) {
        state = state * 6364136223846793005L + 1442695040888963407L;
        return (int) ((state >>> 33) % bound);
    }

    private static boolean oneIn(int many) {
        return below(many) == 0;
    }

    private static int among(int from, int to) {
        return oneIn(25) ? EXTREMES[below(EXTREMES.length)] : from + below(to - from + 1);
    }

    public static void main(String[] args) {
        for (int run = 0; run < RUNS; run++) {
            DUE.about("run " + run);
            oneRun();
        }
        System.out.println(good + " texts told, " + faulty + " with a fault");
        DUE.is("texts of both kinds", good > RUNS && faulty > RUNS ? 1 : 0, 1);
        DUE.end();
    }

    private static void oneRun() {
        SpreadDesk x = new SpreadDesk();
        Model m = new Model();
        String waiting = text();
        int typed = 0;
        int untilNext = 0;
        for (int call = 0; call < CALLS; call++) {
            if (untilNext > 0) {
                untilNext--;
                oneCall(x, m);
            } else if (typed < waiting.length()) {
                int letter = waiting.charAt(typed);
                typed++;
                DUE.is("type(" + letter + ")", () -> x.type(letter), m.type(letter));
            } else {
                long due = m.desk();
                DUE.is("desk() on '" + waiting + "'", () -> x.desk(), due);
                good += due >= 0 ? 1 : 0;
                faulty += due < 0 ? 1 : 0;
                if (due < 0 && call + 1 < CALLS && !oneIn(4)) {
                    call++;
                    DUE.is("clear()", () -> x.clear(), m.clear());
                }
                waiting = text();
                typed = 0;
                untilNext = due < 0 ? below(4) : 30 + below(150);
            }
        }
    }

    // ---- texts

    private static String text() {
        StringBuilder text = new StringBuilder();
        int items = below(7);
        int formulas = 0;
        for (int i = 0; i < items && text.length() < 85; i++) {
            int kind = below(4);
            if (kind == 0) {
                text.append('S').append(source()).append(signed()).append(' ').append(below(100));
            } else if (kind == 1) {
                text.append('C').append(source()).append(source()).append(signed());
            } else {
                text.append('F');
                sum(text, formulas, 0);
                formulas++;
            }
            text.append(';');
        }
        spoil(text);
        return text.substring(0, Math.min(text.length(), oneIn(20) ? 110 : 100));
    }

    private static void spoil(StringBuilder text) {
        String signs = "SCFabcdef+-*^()@;0123456789  g$";
        int times = oneIn(2) ? below(3) : 0;
        for (int i = 0; i < times && text.length() > 0; i++) {
            int at = below(text.length());
            char sign = signs.charAt(below(signs.length()));
            if (oneIn(3)) {
                text.deleteCharAt(at);
            } else if (oneIn(2)) {
                text.setCharAt(at, sign);
            } else {
                text.insert(at, sign);
            }
        }
        for (int i = below(8) - 4; i > 0; i--) {
            text.insert(below(text.length() + 1), ' ');
        }
    }

    private static char source() {
        return (char) ('a' + below(6));
    }

    private static String signed() {
        return (oneIn(3) ? "-" : "") + below(100);
    }

    private static void sum(StringBuilder text, int formulas, int depth) {
        int parts = 1 + below(3);
        for (int i = 0; i < parts; i++) {
            if (i > 0) {
                text.append("+-*".charAt(below(3)));
            }
            part(text, formulas, depth);
            if (oneIn(4)) {
                text.append('^').append(below(5));
            }
        }
    }

    private static void part(StringBuilder text, int formulas, int depth) {
        int kind = below(10);
        if (kind == 0) {
            text.append('-');
            part(text, formulas, depth);
        } else if (kind <= 2 && depth < 10 && text.length() < 80) {
            text.append('(');
            sum(text, formulas, depth + 1);
            text.append(')');
        } else if (kind <= 5 && formulas > 0) {
            text.append('@').append(below(formulas));
        } else if (kind == 6) {
            text.append(below(100));
        } else {
            text.append(source());
        }
    }

    // ---- calls

    private static void oneCall(SpreadDesk x, Model m) {
        int f = among(0, 3);
        int g = among(0, 3);
        int s = among(0, 5);
        int t = among(0, 5);
        int what = among(0, 3);
        switch (below(25)) {
            case 0, 1 -> {
                int v = among(-99, 99);
                DUE.is("values(" + s + ", " + v + ")", () -> x.values(s, v), m.values(s, v));
            }
            case 2 -> {
                int v = among(-99, 99);
                DUE.is("spreads(" + s + ", " + v + ")", () -> x.spreads(s, v), m.spreads(s, v));
            }
            case 3 -> {
                int v = among(-2, 2);
                DUE.is("joints(" + s + ", " + t + ", " + v + ")", () -> x.joints(s, t, v), m.joints(s, t, v));
            }
            case 4 -> DUE.is("undo()", () -> x.undo(), m.undo());
            case 5 -> DUE.is("value(" + f + ")", () -> x.value(f), m.value(f));
            case 6 -> DUE.is("slope(" + f + ", " + s + ")", () -> x.slope(f, s), m.slope(f, s));
            case 7 -> DUE.is("bend(" + f + ", " + s + ", " + t + ")", () -> x.bend(f, s, t), m.bend(f, s, t));
            case 8 -> DUE.is("whole(" + f + ")", () -> x.whole(f), m.whole(f));
            case 9 -> DUE.is("together(" + f + ", " + g + ")", () -> x.together(f, g), m.together(f, g));
            case 10 -> DUE.is("share(" + f + ", " + s + ")", () -> x.share(f, s), m.share(f, s));
            case 11 -> {
                int set = among(0, 63);
                DUE.is("left(" + f + ", " + set + ")", () -> x.left(f, set), m.left(f, set));
            }
            case 12 -> fewest(x, m, f);
            case 13 -> DUE.is("takes(" + f + ", " + s + ")", () -> x.takes(f, s), m.takes(f, s));
            case 14 -> DUE.is("first(" + f + ", " + what + ")", () -> x.first(f, what), m.first(f, what));
            case 15 -> {
                int d = among(-20, 20);
                DUE.is("off(" + f + ", " + s + ", " + d + ")", () -> x.off(f, s, d), m.off(f, s, d));
            }
            case 16 -> sees(x, m, f, s);
            case 17 -> {
                if (oneIn(6)) {
                    DUE.is("forget()", () -> x.forget(), m.forget());
                }
            }
            case 18 -> {
                int d = among(-3, 3);
                DUE.is("unseen(" + d + ")", () -> x.unseen(d), m.unseen(d));
            }
            case 19 -> {
                int image = among(0, 1);
                DUE.is("keep(" + image + ")", () -> x.keep(image), m.keep(image));
            }
            case 20 -> {
                int image = among(0, 1);
                DUE.is("back(" + image + ")", () -> x.back(image), m.back(image));
            }
            case 21 -> DUE.is("formula(" + f + ", " + what + ")", () -> x.formula(f, what), m.formula(f, what));
            case 22 -> DUE.is("count(" + what + ")", () -> x.count(what), m.count(what));
            case 23 -> DUE.is("source(" + s + ", " + what + ")", () -> x.source(s, what), m.source(s, what));
            default -> DUE.is("joint(" + s + ", " + t + ")", () -> x.joint(s, t), m.joint(s, t));
        }
    }

    /** Limits that lie on what is left by some set, or next to it, and some far off. */
    private static void fewest(SpreadDesk x, Model m, int f) {
        long near = m.left(f, below(64)) - below(2);
        long limit = oneIn(6) ? (oneIn(2) ? Long.MIN_VALUE : Long.MAX_VALUE) : near;
        DUE.is("fewest(" + f + ", " + limit + ")", () -> x.fewest(f, limit), m.fewest(f, limit));
    }

    /** Values that one moved source would give, mostly, so that some sources explain them. */
    private static void sees(SpreadDesk x, Model m, int f, int s) {
        int d = below(7) - 3;
        long moved = m.off(f, s, d) + m.value(f) + d * m.slope(f, s);
        long value = oneIn(8) ? below(100) : moved;
        DUE.is("sees(" + f + ", " + value + ")", () -> x.sees(f, value), m.sees(f, value));
    }
}
