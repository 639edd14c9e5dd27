/**
 * What the document defines by something else that a call answers is reckoned here by that call, on
 * a second desk where something must be set for it: so that a sentence that says what a number is
 * has a test of its own beside those of its bounds.
 */
public final class DefinitionsTest {
    private static final Due DUE = new Due();
    private static final int NONE = -9;

    private static final String FIGURES =
        "Sa3 4;Sb-2 9;Sc5 1;Se-7 30;Sf12 99;Cab-3;Cbc2;Cfa-50;Cef7;";

    /** Of degree 2 at most by each source, and of degree 3 at most in all. */
    private static final String[] FORMULAS = {
        "Fa*b+c^2;F@0-@0*2;F(a-e)*(b+f);F7;",
        "Fa;F-b;F@0*@1*c;F@2-@1*f^2+a^2;",
        "F0;Fa*b*c;Fa-b+c-d+e-f;F-(@2)^2;",
        "Fd*2-f*f;F(d-3*f)^2;F@0+@1;Fa^0*e^1*99;",
    };

    public static void main(String[] args) {
        aSetChangesJustThat();
        valueAsItSays();
        valueOfOperators();
        slopeIsTheDerivative();
        slopeAtValues();
        bendIsTheDerivativeOfSlope();
        bendByTheOneThenTheOther();
        wholeOfAllTwos();
        togetherLikewise();
        shareOverAllJ();
        sharesMakeUpTheWhole();
        leftWereThey0();
        fewestByLeft();
        takesIsWholeLessLeft();
        firstByTakesAndShare();
        offByAValueSet();
        stepsOfEachAt();
        unseenByValuesSet();
        imagesAsTheDeskWas();
        DUE.end();
    }

    private static SpreadDesk told(String formulas) {
        SpreadDesk x = Due.told(FIGURES);
        SpreadDesk y = Due.told(formulas);
        for (int s = 0; s < 6; s++) {
            y.values(s, (int) x.source(s, 0));
            y.spreads(s, (int) x.source(s, 1));
            for (int t = 0; t < s; t++) {
                y.joints(s, t, (int) x.joint(s, t));
            }
        }
        return y;
    }

    private static SpreadDesk moved(String formulas, int s, int d) {
        SpreadDesk x = told(formulas);
        x.values(s, (int) x.source(s, 0) + d);
        return x;
    }

    // ---- section 2

    private static String figures(SpreadDesk x) {
        StringBuilder all = new StringBuilder();
        for (int s = 0; s < 6; s++) {
            all.append(x.source(s, 0)).append(' ');
            for (int t = 0; t < 6; t++) {
                all.append(x.joint(s, t)).append(' ');
            }
            all.append(x.source(s, 1) == x.joint(s, s) ? "" : "SPREAD is not JOINT ");
        }
        return all.toString();
    }

    private static String due(int s, int t, int v) {
        StringBuilder all = new StringBuilder();
        for (int i = 0; i < 6; i++) {
            all.append(i == s && t < 0 ? v : 10 + i).append(' ');
            for (int j = 0; j < 6; j++) {
                boolean it = i == s && j == t || i == t && j == s;
                all.append(it ? v : 20 + i + j + i * j).append(' ');
            }
        }
        return all.toString();
    }

    /** All figures unlike, so that none can be set in another's place. */
    private static SpreadDesk unlike() {
        SpreadDesk x = new SpreadDesk();
        for (int s = 0; s < 6; s++) {
            x.values(s, 10 + s);
            for (int t = 0; t < s; t++) {
                x.joints(s, t, 20 + s + t + s * t);
            }
            x.spreads(s, 20 + s + s + s * s);
        }
        return x;
    }

    private static void aSetChangesJustThat() {
        DUE.about("SET: VALUE, SPREAD of a SOURCE; JOINT of two. UNDONE");
        String before = due(-1, -1, 0);
        for (int s = 0; s < 6; s++) {
            for (int t = -1; t < 6; t++) {
                SpreadDesk x = unlike();
                DUE.is("all as it was set", figures(x).equals(before) ? 1 : 0, 1);
                long answer = t < 0 ? x.values(s, 99) : t == s ? x.spreads(s, 99) : x.joints(s, t, 99);
                DUE.is("the answer", answer, t == s ? 20 + s + s + s * s : 1);
                DUE.is("just " + s + ", " + t + " is 99", figures(x).equals(due(s, t, 99)) ? 1 : 0, 1);
                DUE.is("undo()", x.undo(), 9);
                DUE.is("all is as before", figures(x).equals(before) ? 1 : 0, 1);
            }
        }
    }

    private static void valueAsItSays() {
        DUE.about("VALUE of a FORMULA: as it says");
        long[][] due = {{-6 + 25, 19 - 38, 10 * 10, 7}, {3, 2, 3 * 2 * 5, 30 - 2 * 144 + 9},
            {0, 3 * -2 * 5, 3 + 2 + 5 - 7 - 12, 81}, {-144, 36 * 36, 1152, -7 * 99}};
        for (int i = 0; i < FORMULAS.length; i++) {
            SpreadDesk x = told(FORMULAS[i]);
            for (int f = 0; f < 4; f++) {
                DUE.is("value(" + f + ") of " + FORMULAS[i], x.value(f), due[i][f]);
            }
        }
    }

    private static void valueOfOperators() {
        DUE.about("VALUE: + - * ^, - ahead of a part, @, ( ), a NUMBER, a SOURCE");
        int[] values = {-99, -7, -1, 0, 1, 2, 99};
        SpreadDesk x = Due.told("Fa+b;Fa-b;Fa*b;F-a;");
        SpreadDesk y = Due.told("Fa^2;Fa^3;Fa^4;F(a+b)*(a-b);");
        SpreadDesk z = Due.told("Fa;F@0-b;F@1*@0;F-(@2)+42;");
        for (int a : values) {
            for (int b : values) {
                for (SpreadDesk desk : new SpreadDesk[] {x, y, z}) {
                    desk.values(0, a);
                    desk.values(1, b);
                }
                long[][] due = {{a + b, a - b, a * b, -a}, {a * a, a * a * a, a * a * a * a, a * a - b * b},
                    {a, a - b, (a - b) * a, 42 - (a - b) * a}};
                for (int f = 0; f < 4 && (a != 0 || b < 1); f++) {
                    DUE.is("value(" + f + ") at " + a + ", " + b, x.value(f), due[0][f]);
                    DUE.is("value(" + f + ") at " + a + ", " + b, y.value(f), due[1][f]);
                    DUE.is("value(" + f + ") at " + a + ", " + b, z.value(f), due[2][f]);
                }
            }
        }
    }

    /** A difference to both sides is the derivative itself where there is no third one. */
    private static void slopeIsTheDerivative() {
        DUE.about("SLOPE of a FORMULA by a SOURCE: its derivative by it");
        for (String formulas : FORMULAS) {
            SpreadDesk x = told(formulas);
            for (int s = 0; s < 6; s++) {
                SpreadDesk more = moved(formulas, s, 1);
                SpreadDesk less = moved(formulas, s, -1);
                for (int f = 0; f < 4; f++) {
                    DUE.is("2 slope(" + f + ", " + s + ") of " + formulas, 2 * x.slope(f, s),
                        more.value(f) - less.value(f));
                }
            }
        }
    }

    private static void slopeAtValues() {
        DUE.about("SLOPE: at VALUES");
        SpreadDesk x = Due.told("Fa^2*b;");
        DUE.is("at 0, 0", x.slope(0, 0), 0);
        x.values(0, 3);
        x.values(1, 5);
        x.keep(0);
        DUE.is("at 3, 5", x.slope(0, 0), 30);
        DUE.is("at 3, 5", x.slope(0, 1), 9);
        x.values(0, -4);
        DUE.is("at -4, 5", x.slope(0, 0), -40);
        DUE.is("at -4, 5", x.bend(0, 0, 0), 10);
        DUE.is("at -4, 5", x.bend(0, 0, 1), -8);
        x.undo();
        DUE.is("at 3, 5 by undo()", x.slope(0, 0), 30);
        x.values(1, 50);
        x.back(0);
        DUE.is("at 3, 5 by back()", x.slope(0, 0), 30);
        DUE.is("at 3, 5 by back()", x.bend(0, 1, 0), 6);
    }

    private static void bendIsTheDerivativeOfSlope() {
        DUE.about("BEND by two SOURCES: the derivative of SLOPE by the one by the other one");
        String[] cubic = {"Fa^3-b*a^2;F@0-c^3*2;F(a-b)^3+e;F@2-f^2*a;", FORMULAS[0], FORMULAS[1], FORMULAS[3]};
        for (String formulas : cubic) {
            SpreadDesk x = told(formulas);
            for (int t = 0; t < 6; t++) {
                SpreadDesk more = moved(formulas, t, 1);
                SpreadDesk less = moved(formulas, t, -1);
                for (int f = 0; f < 4; f++) {
                    for (int s = 0; s < 6; s++) {
                        DUE.is("2 bend(" + f + ", " + s + ", " + t + ") of " + formulas, 2 * x.bend(f, s, t),
                            more.slope(f, s) - less.slope(f, s));
                    }
                }
            }
        }
    }

    private static void bendByTheOneThenTheOther() {
        DUE.about("BEND by two SOURCES, in either order");
        for (String formulas : FORMULAS) {
            SpreadDesk x = told(formulas);
            for (int f = 0; f < 4; f++) {
                for (int s = 0; s < 6; s++) {
                    for (int t = 0; t < s; t++) {
                        DUE.is("bend(f, s, t) of " + formulas, x.bend(f, s, t), x.bend(f, t, s));
                    }
                }
            }
        }
        SpreadDesk y = Due.told("Sa2 0;Sb3 0;Fa^2*b+b^3;");
        DUE.is("by a, a", y.bend(0, 0, 0), 6);
        DUE.is("by a, b", y.bend(0, 0, 1), 4);
        DUE.is("by b, a", y.bend(0, 1, 0), 4);
        DUE.is("by b, b", y.bend(0, 1, 1), 18);
        DUE.is("by a, f", y.bend(0, 0, 5), 0);
    }

    private static void wholeOfAllTwos() {
        DUE.about("WHOLE: SLOPE by i, SLOPE by j, JOINT (SPREAD, if they are one), over all twos");
        for (String formulas : FORMULAS) {
            SpreadDesk x = told(formulas);
            for (int f = 0; f < 4; f++) {
                long sum = 0;
                for (int i = 0; i < 6; i++) {
                    sum += x.slope(f, i) * x.slope(f, i) * x.source(i, 1);
                    for (int j = 0; j < i; j++) {
                        sum += 2 * x.slope(f, i) * x.slope(f, j) * x.joint(i, j);
                    }
                }
                DUE.is("whole(" + f + ") of " + formulas, x.whole(f), sum);
            }
        }
    }

    private static void togetherLikewise() {
        DUE.about("TOGETHER: SLOPE of the one by i, of the other by j");
        for (String formulas : FORMULAS) {
            for (int f = 0; f < 4; f++) {
                for (int g = 0; g < 4; g++) {
                    SpreadDesk x = told(formulas);
                    long sum = 0;
                    for (int ij = 0; ij < 36; ij++) {
                        sum += x.slope(f, ij / 6) * x.slope(g, ij % 6) * x.joint(ij / 6, ij % 6);
                    }
                    DUE.is("together(" + f + ", " + g + ") of " + formulas, x.together(f, g), sum);
                    DUE.is("the other way", x.together(g, f), sum);
                    DUE.is("of one and itself", x.together(f, f), x.whole(f));
                }
            }
        }
    }

    private static void shareOverAllJ() {
        DUE.about("SHARE of a SOURCE i: over all j, SLOPE by i, SLOPE by j, JOINT");
        for (String formulas : FORMULAS) {
            for (int f = 0; f < 4; f++) {
                SpreadDesk x = told(formulas);
                for (int i = 0; i < 6; i++) {
                    long sum = 0;
                    for (int j = 0; j < 6; j++) {
                        sum += x.slope(f, i) * x.slope(f, j) * x.joint(i, j);
                    }
                    DUE.is("share(" + f + ", " + i + ") of " + formulas, x.share(f, i), sum);
                }
            }
        }
    }

    private static void sharesMakeUpTheWhole() {
        DUE.about("the shares of sources that make up the whole");
        for (String formulas : FORMULAS) {
            SpreadDesk x = told(formulas);
            for (int f = 0; f < 4; f++) {
                long sum = 0;
                for (int s = 0; s < 6; s++) {
                    sum += x.share(f, s);
                }
                DUE.is("shares of " + f + " of " + formulas, sum, x.whole(f));
            }
        }
    }

    // ---- section 3

    private static void leftWereThey0() {
        DUE.about("LEFT: WHOLE, were their SPREADS, all JOINTS of them 0");
        for (String formulas : FORMULAS) {
            for (int set = 0; set < 64; set++) {
                SpreadDesk x = told(formulas);
                SpreadDesk sure = told(formulas);
                for (int s = 0; s < 6; s++) {
                    for (int t = 0; t < 6 && (set >> s & 1) == 1; t++) {
                        if (t == s) {
                            sure.spreads(s, 0);
                        } else {
                            sure.joints(s, t, 0);
                        }
                    }
                }
                for (int f = 0; f < 4; f++) {
                    DUE.is("left(" + f + ", " + set + ") of " + formulas, x.left(f, set), sure.whole(f));
                }
            }
        }
    }

    private static int fewestOf(long[] left, long limit) {
        int best = NONE;
        for (int set = 63; set >= 0; set--) {
            boolean few = best == NONE || Integer.bitCount(set) <= Integer.bitCount(best);
            best = left[set] <= limit && few ? set : best;
        }
        return best;
    }

    private static void fewestByLeft() {
        DUE.about("FEWEST: as few SOURCES as can be by which LEFT is the limit or less; NONE");
        for (String formulas : FORMULAS) {
            for (int f = 0; f < 4; f++) {
                SpreadDesk x = told(formulas);
                long[] left = new long[64];
                for (int set = 0; set < 64; set++) {
                    left[set] = x.left(f, set);
                }
                for (int set = 0; set < 64; set++) {
                    for (int less = 0; less <= 2; less++) {
                        long limit = left[set] - less;
                        DUE.is("fewest(" + f + ", " + limit + ") of " + formulas, x.fewest(f, limit),
                            fewestOf(left, limit));
                    }
                }
            }
        }
    }

    private static void takesIsWholeLessLeft() {
        DUE.about("TAKES of a SOURCE: WHOLE less LEFT by it alone");
        for (String formulas : FORMULAS) {
            SpreadDesk x = told(formulas);
            for (int f = 0; f < 4; f++) {
                for (int s = 0; s < 6; s++) {
                    DUE.is("takes(" + f + ", " + s + ") of " + formulas, x.takes(f, s), x.whole(f) - x.left(f, 1 << s));
                }
            }
        }
    }

    private static void firstByTakesAndShare() {
        DUE.about("The SOURCE of greatest TAKES, of greatest SHARE, of several the lowest");
        for (String formulas : FORMULAS) {
            SpreadDesk x = told(formulas);
            for (int f = 0; f < 4; f++) {
                int takes = 5;
                int share = 5;
                for (int s = 4; s >= 0; s--) {
                    takes = x.takes(f, s) >= x.takes(f, takes) ? s : takes;
                    share = x.share(f, s) >= x.share(f, share) ? s : share;
                }
                DUE.is("first(" + f + ", 0) of " + formulas, x.first(f, 0), takes);
                DUE.is("first(" + f + ", 1) of " + formulas, x.first(f, 1), share);
            }
        }
    }

    private static void offByAValueSet() {
        DUE.about("OFF: VALUE if the SOURCE were d more, less VALUE, less d times SLOPE");
        String quartic = "Fa^4;Fa^3*b^2;F@0*@1;F(a-b*c)^4*2;";
        for (String formulas : new String[] {quartic, FORMULAS[0], FORMULAS[3]}) {
            for (int s = 0; s < 6; s++) {
                SpreadDesk x = told(formulas);
                for (int d = -20; d <= 20; d++) {
                    SpreadDesk more = moved(formulas, s, d);
                    int f = (d + 20) % 4;
                    DUE.is("off(" + f + ", " + s + ", " + d + ") of " + formulas, x.off(f, s, d),
                        more.value(f) - x.value(f) - d * x.slope(f, s));
                }
            }
        }
    }

    private static void stepsOfEachAt() {
        DUE.about("STEPS: NODES gone through (those of each @ each time, too)");
        String[][] formulas = {{"a*b", "@0+@0*c", "@1^2-@0", "@2*@2*@1"}, {"7", "-@0", "@1+@1+@0", "(@2)"},
            {"a^0", "b*2", "@1", "@0*@0+@1"}};
        for (String[] four : formulas) {
            SpreadDesk x = Due.told("F" + String.join(";F", four) + ";");
            for (int f = 0; f < 4; f++) {
                int steps = x.formula(f, 0);
                for (int g = 0; g < f; g++) {
                    int times = four[f].split("@" + g, -1).length - 1;
                    steps += times * x.formula(g, 1);
                }
                DUE.is("formula(" + f + ", 1) of " + four[f], x.formula(f, 1), steps);
            }
        }
    }

    private static void unseenByValuesSet() {
        DUE.about("UNSEEN for d: SOURCES (bits) by which all that was SEEN is so");
        for (String formulas : FORMULAS) {
            for (int d : new int[] {-20, -2, -1, 0, 1, 3, 20}) {
                for (int truth = 0; truth < 6; truth++) {
                    SpreadDesk so = moved(formulas, truth, d);
                    SpreadDesk x = told(formulas);
                    int set = 63;
                    for (int f = 0; f < 4; f++) {
                        DUE.is("sees()", x.sees(f, so.value(f)), f + 1);
                        for (int s = 0; s < 6; s++) {
                            set &= moved(formulas, s, d).value(f) == so.value(f) ? 63 : ~(1 << s);
                        }
                        DUE.is("unseen(" + d + ") of " + formulas, x.unseen(d), set);
                    }
                    DUE.is("it is among them", set >> truth & 1, 1);
                }
            }
        }
    }

    private static void imagesAsTheDeskWas() {
        DUE.about("IMAGES 0, 1 keep VALUES, SPREADS, JOINTS");
        for (int image = 0; image < 2; image++) {
            for (int s = 0; s < 6; s++) {
                for (int t = -1; t <= s; t++) {
                    SpreadDesk x = unlike();
                    String before = figures(x);
                    x.keep(image);
                    if (t < 0) {
                        x.values(s, 99);
                    } else if (t == s) {
                        x.spreads(s, 99);
                    } else {
                        x.joints(s, t, 99);
                    }
                    DUE.is("it is another now", figures(x).equals(before) ? 1 : 0, 0);
                    x.back(image);
                    DUE.is("all is as it was kept", figures(x).equals(before) ? 1 : 0, 1);
                }
            }
        }
    }
}
