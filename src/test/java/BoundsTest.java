/**
 * Sections 1 to 3 and the promises, sentence by sentence, where one names a bound: what is too small
 * or too large by one, what is empty, what is full. (THE TEXT is in TextBoundsTest, what goes beyond
 * 64 bits in CutTest, what is refused in RefusedTest.)
 */
public final class BoundsTest {
    private static final Due DUE = new Due();
    private static final int BAD = -1;
    private static final int STATE = -2;
    private static final int FULL = -3;
    private static final int NONE = -9;
    private static final long NO = -9000000000000000000L;
    private static final int MIN = Integer.MIN_VALUE;
    private static final int MAX = Integer.MAX_VALUE;

    public static void main(String[] args) {
        allOf512Calls();
        sourcesAToF();
        allIs0AtFirst();
        valuesFromMinus99To99();
        spreadsFrom0To99();
        jointsFromMinus99To99();
        jointsOfTwoUnlikeOnes();
        theSameBothWays();
        formulasFourAtMost();
        toThePowerOf0();
        slopesAndBendsOfLowPowers();
        allTwosOfSources();
        noneToBeUndone();
        tenAreKnown();
        onlyWhatWasNotRefused();
        setsOfSources();
        theLimitOrLess();
        asFewAsCanBe();
        ofSeveralTheLeastNumber();
        noneIsFewEnough();
        dOfOff();
        stepsOfOneNodeAndOfTheMost();
        sixSeenAtMost();
        nothingSeen();
        theSameForAllThatIsSeen();
        dOfUnseen();
        images0And1();
        noneWasKept();
        nothingUndoneBehindBack();
        imagesKeepNothingElse();
        readAnew();
        elseAsAtFirst();
        asMuchAsCanBeReadAnew();
        lettersFrom0To255();
        whatOfSource();
        whatOfFirst();
        ofSeveralTheLowest();
        whatOfFormula();
        namesOfFormulas();
        whatOfCount();
        DUE.end();
    }

    private static void allOf512Calls() {
        DUE.about("at most 512 calls");
        SpreadDesk x = Due.told("Fa;");
        int calls = 5;
        while (calls < 510) {
            int v = calls % 99 + 1;
            DUE.is("values(0, v)", x.values(0, v), 1);
            calls++;
        }
        DUE.is("call 511", x.values(5, 7), 1);
        DUE.is("call 512", x.value(0), 509 % 99 + 1);
    }

    // ---- section 1

    private static void sourcesAToF() {
        DUE.about("SOURCES a to f (0 a .. 5 f)");
        for (Calls.One call : Calls.BY_SOURCE) {
            for (int n : new int[] {-1, 6, -6, 32, 37, 64, MIN, MIN + 1, MAX}) {
                SpreadDesk x = Due.told("Sa3 4;Sb5 6;Fa*b;");
                DUE.is(call.name() + " of " + n, call.asks().of(x, n), call.refusal());
            }
            for (int n = 0; n < 6; n++) {
                SpreadDesk x = Due.told("Sa3 4;Sb5 6;Fa*b;");
                boolean refused = call.asks().of(x, n) == call.refusal();
                DUE.is(call.name() + " of " + n + " is refused", refused ? 1 : 0, 0);
            }
        }
    }

    private static void allIs0AtFirst() {
        DUE.about("0 at first");
        for (SpreadDesk x : new SpreadDesk[] {new SpreadDesk(), Due.told("Fa;")}) {
            for (int s = 0; s < 6; s++) {
                DUE.is("source(s, 0)", x.source(s, 0), 0);
                DUE.is("source(s, 1)", x.source(s, 1), 0);
                DUE.is("values(s, 0): it is that", x.values(s, 0), STATE);
                DUE.is("spreads(s, 0): what it was", x.spreads(s, 0), 0);
                for (int t = 0; t < 6; t++) {
                    DUE.is("joint(s, t)", x.joint(s, t), 0);
                    DUE.is("joints(s, t, 0)", x.joints(s, t, 0), s == t ? BAD : STATE);
                }
            }
        }
    }

    private static void valuesFromMinus99To99() {
        DUE.about("VALUE (-99 .. 99)");
        for (int s = 0; s < 6; s++) {
            SpreadDesk x = new SpreadDesk();
            DUE.is("values(s, -99)", x.values(s, -99), 1);
            DUE.is("source(s, 0)", x.source(s, 0), -99);
            DUE.is("values(s, -100)", x.values(s, -100), BAD);
            DUE.is("source(s, 0)", x.source(s, 0), -99);
            DUE.is("values(s, 99)", x.values(s, 99), 1);
            DUE.is("source(s, 0)", x.source(s, 0), 99);
            DUE.is("values(s, 100)", x.values(s, 100), BAD);
            DUE.is("values(s, min)", x.values(s, MIN), BAD);
            DUE.is("values(s, max)", x.values(s, MAX), BAD);
            DUE.is("source(s, 0)", x.source(s, 0), 99);
            DUE.is("values(s, 99): it is that", x.values(s, 99), STATE);
            DUE.is("values(s, 98)", x.values(s, 98), 1);
        }
    }

    private static void spreadsFrom0To99() {
        DUE.about("SPREAD (0 .. 99)");
        for (int s = 0; s < 6; s++) {
            SpreadDesk x = new SpreadDesk();
            DUE.is("spreads(s, 99)", x.spreads(s, 99), 0);
            DUE.is("spreads(s, 100)", x.spreads(s, 100), BAD);
            DUE.is("spreads(s, 0)", x.spreads(s, 0), 99);
            DUE.is("spreads(s, -1)", x.spreads(s, -1), BAD);
            DUE.is("spreads(s, min)", x.spreads(s, MIN), BAD);
            DUE.is("spreads(s, max)", x.spreads(s, MAX), BAD);
            DUE.is("source(s, 1)", x.source(s, 1), 0);
            DUE.is("spreads(s, 0): not refused", x.spreads(s, 0), 0);
            DUE.is("undoable", x.count(3), 3);
        }
    }

    private static void jointsFromMinus99To99() {
        DUE.about("JOINT (-99 .. 99)");
        for (int s = 0; s < 5; s++) {
            SpreadDesk x = new SpreadDesk();
            DUE.is("joints(s, 5, 99)", x.joints(s, 5, 99), 1);
            DUE.is("joints(s, 5, 100)", x.joints(s, 5, 100), BAD);
            DUE.is("joint(s, 5)", x.joint(s, 5), 99);
            DUE.is("joints(s, 5, -99)", x.joints(s, 5, -99), 1);
            DUE.is("joints(s, 5, -100)", x.joints(s, 5, -100), BAD);
            DUE.is("joints(s, 5, min)", x.joints(s, 5, MIN), BAD);
            DUE.is("joints(s, 5, max)", x.joints(s, 5, MAX), BAD);
            DUE.is("joint(s, 5)", x.joint(s, 5), -99);
            DUE.is("joints(s, 5, -99): it is that", x.joints(s, 5, -99), STATE);
            DUE.is("joints(s, 5, -98)", x.joints(s, 5, -98), 1);
        }
    }

    private static void jointsOfTwoUnlikeOnes() {
        DUE.about("each two unlike ones with a JOINT");
        for (int s = 0; s < 6; s++) {
            SpreadDesk x = new SpreadDesk();
            x.spreads(s, 7);
            DUE.is("joint(s, s) is SPREAD", x.joint(s, s), 7);
            DUE.is("joints(s, s, 7)", x.joints(s, s, 7), BAD);
            DUE.is("joints(s, s, 8)", x.joints(s, s, 8), BAD);
            DUE.is("joint(s, s)", x.joint(s, s), 7);
            for (int t = 0; t < 6; t++) {
                DUE.is("joints(s, t, 8)", x.joints(s, t, 8), s == t ? BAD : 1);
                DUE.is("joint(s, t)", x.joint(s, t), s == t ? 7 : 8);
            }
        }
    }

    private static void theSameBothWays() {
        DUE.about("the same both ways");
        SpreadDesk x = new SpreadDesk();
        for (int s = 0; s < 6; s++) {
            for (int t = 0; t < s; t++) {
                int v = 6 * s - t;
                DUE.is("joints(s, t, v)", x.joints(s, t, v), 1);
                DUE.is("joint(t, s)", x.joint(t, s), v);
                DUE.is("joints(t, s, v)", x.joints(t, s, v), STATE);
                DUE.is("joints(t, s, -v)", x.joints(t, s, -v), 1);
                DUE.is("joint(s, t)", x.joint(s, t), -v);
                x.undo();
                DUE.is("joint(s, t) undone", x.joint(s, t), v);
                DUE.is("joint(t, s) undone", x.joint(t, s), v);
            }
        }
    }

    private static void formulasFourAtMost() {
        DUE.about("FORMULAS 0 .. (4 at most)");
        for (int many = 0; many <= 4; many++) {
            String text = "Sa3 4;Sb5 6;" + "Fa*b;".repeat(many);
            DUE.is("formulas", Due.told(text).count(0), many);
            for (Calls.One call : Calls.BY_FORMULA) {
                for (int n : new int[] {-1, many, many + 1, 4, 5, MIN, MAX}) {
                    DUE.is(call.name() + " of " + n, call.asks().of(Due.told(text), n), call.refusal());
                }
                for (int n = 0; n < many; n++) {
                    boolean refused = call.asks().of(Due.told(text), n) == call.refusal();
                    DUE.is(call.name() + " of " + n + " is refused", refused ? 1 : 0, 0);
                }
            }
        }
    }

    // ---- section 2

    private static void toThePowerOf0() {
        DUE.about("^ 0 is 1");
        SpreadDesk x = Due.told("Sa5 0;Fb^0;F(a-5)^0;F-a^0;F(8^4*8^4)^0;");
        DUE.is("0 ^ 0", x.value(0), 1);
        DUE.is("(5 - 5) ^ 0", x.value(1), 1);
        DUE.is("(-5) ^ 0", x.value(2), 1);
        DUE.is("2^24 ^ 0", x.value(3), 1);
        x.values(1, -99);
        DUE.is("(-99) ^ 0", x.value(0), 1);
        DUE.is("slope(0, 1)", x.slope(0, 1), 0);
        DUE.is("bend(0, 1, 1)", x.bend(0, 1, 1), 0);
        DUE.is("off(0, 1, 20)", x.off(0, 1, 20), 0);
    }

    private static void slopesAndBendsOfLowPowers() {
        DUE.about("SLOPE and BEND where ^ runs out");
        for (int v : new int[] {0, 1, -1, 3, -99, 99}) {
            SpreadDesk x = Due.told("Fa^1;Fa^2;Fa^3;Fa^4;");
            x.values(0, v);
            long[] slopes = {1, 2 * v, 3 * v * v, 4 * v * v * v};
            long[] bends = {0, 2, 6 * v, 12 * v * v};
            for (int f = 0; f < 4; f++) {
                DUE.is("slope of ^" + (f + 1) + " at " + v, x.slope(f, 0), slopes[f]);
                DUE.is("bend of ^" + (f + 1) + " at " + v, x.bend(f, 0, 0), bends[f]);
                DUE.is("slope by another", x.slope(f, 1), 0);
                DUE.is("bend by it and another", x.bend(f, 0, 1), 0);
                DUE.is("bend by another and it", x.bend(f, 1, 0), 0);
            }
        }
        SpreadDesk y = Due.told("Sa2 0;Sb3 0;F(a*b)^0;F(a*b)^1;F(a*b)^2;F(a+b^2)^3;");
        long[] due = {0, 1, 24, 6 * 11 * 6};
        for (int f = 0; f < 4; f++) {
            DUE.is("bend(f, 0, 1)", y.bend(f, 0, 1), due[f]);
            DUE.is("bend(f, 1, 0)", y.bend(f, 1, 0), due[f]);
        }
    }

    /** One two at a time, so that none can be left out or taken once too often. */
    private static void allTwosOfSources() {
        DUE.about("i and j, j and i, i and i");
        SpreadDesk x = Due.told("Fa+b+c+d+e+f;F2*a+3*b-f;");
        int[] slopes = {2, 3, 0, 0, 0, -1};
        for (int s = 0; s < 6; s++) {
            x.spreads(s, 90);
            DUE.is("i and i", x.whole(0), 90);
            DUE.is("i and i together", x.together(0, 1), 90 * slopes[s]);
            DUE.is("share(0, s)", x.share(0, s), 90);
            x.spreads(s, 0);
            for (int t = 0; t < s; t++) {
                x.joints(s, t, 70);
                DUE.is("i and j, j and i", x.whole(0), 140);
                DUE.is("together(0, 1)", x.together(0, 1), 70 * (slopes[s] + slopes[t]));
                DUE.is("together(1, 0)", x.together(1, 0), 70 * (slopes[s] + slopes[t]));
                DUE.is("whole(1)", x.whole(1), 140 * slopes[s] * slopes[t]);
                DUE.is("share(0, s)", x.share(0, s), 70);
                DUE.is("share(0, t)", x.share(0, t), 70);
                DUE.is("left(0, s)", x.left(0, 1 << s), 0);
                DUE.is("left(0, t)", x.left(0, 1 << t), 0);
                x.joints(s, t, 0);
            }
        }
    }

    private static void noneToBeUndone() {
        DUE.about("UNDONE: none");
        SpreadDesk x = new SpreadDesk();
        DUE.is("undo() on a new desk", x.undo(), STATE);
        x.values(0, 1);
        DUE.is("undo()", x.undo(), 0);
        DUE.is("undo() again", x.undo(), STATE);
        DUE.is("undoable", x.count(3), 0);
        DUE.is("source(0, 0)", x.source(0, 0), 0);
        x.spreads(0, 0);
        DUE.is("undo() of what changed nothing", x.undo(), 0);
        DUE.is("undo() again", x.undo(), STATE);
        DUE.is("values() is no redo", x.values(0, 1), 1);
        DUE.is("undoable", x.count(3), 1);
    }

    private static void tenAreKnown() {
        DUE.about("10 are known, older ones are lost");
        for (int many = 9; many <= 22; many++) {
            SpreadDesk x = new SpreadDesk();
            for (int i = 1; i <= many; i++) {
                setOne(x, i);
                DUE.is("undoable", x.count(3), Math.min(i, 10));
            }
            for (int i = many; i > Math.max(0, many - 10); i--) {
                DUE.is("it is set", oneThatIsSet(x, i), i);
                DUE.is("undo()", x.undo(), i - 1 - Math.max(0, many - 10));
                DUE.is("it is undone", oneThatIsSet(x, i), Math.max(0, i - 3));
            }
            DUE.is("undo() of older ones", x.undo(), STATE);
            for (int i = 1; i <= 3; i++) {
                int lost = Math.max(0, many - 10);
                DUE.is("older ones stay", oneThatIsSet(x, i), lost < i ? 0 : lost - (lost - i) % 3);
            }
        }
    }

    /** In turn VALUE of b, SPREAD of c, JOINT of d and e. */
    private static void setOne(SpreadDesk x, int i) {
        if (i % 3 == 0) {
            x.values(1, i);
        } else if (i % 3 == 1) {
            x.spreads(2, i);
        } else {
            x.joints(3, 4, i);
        }
    }

    private static long oneThatIsSet(SpreadDesk x, int i) {
        return i % 3 == 0 ? x.source(1, 0) : i % 3 == 1 ? x.source(2, 1) : x.joint(4, 3);
    }

    private static void onlyWhatWasNotRefused() {
        DUE.about("UNDONE: the latest that was not refused");
        SpreadDesk x = Due.told("Sa1 2;Cab3;");
        x.values(0, 4);
        x.values(0, 4);
        x.values(0, 100);
        x.values(6, 0);
        x.joints(0, 1, 3);
        x.joints(0, 0, 5);
        x.joints(0, 1, 100);
        x.spreads(0, 100);
        x.spreads(0, -1);
        x.spreads(-1, 5);
        DUE.is("undoable", x.count(3), 1);
        x.spreads(0, 2);
        DUE.is("spreads() to what it is was not refused", x.count(3), 2);
        DUE.is("undo()", x.undo(), 1);
        DUE.is("source(0, 0)", x.source(0, 0), 4);
        DUE.is("undo()", x.undo(), 0);
        DUE.is("source(0, 0)", x.source(0, 0), 1);
        DUE.is("source(0, 1)", x.source(0, 1), 2);
        DUE.is("joint(0, 1)", x.joint(0, 1), 3);
    }

    // ---- section 3

    private static void setsOfSources() {
        DUE.about("a set of SOURCES (bits: 1 a, 2 b ..)");
        SpreadDesk x = Due.told("Sa0 1;Sb0 2;Sc0 4;Sd0 8;Se0 16;Sf0 32;Fa+b+c+d+e+f;");
        for (int set = 0; set < 64; set++) {
            DUE.is("left(0, " + set + ")", x.left(0, set), 63 - set);
        }
        for (int set : new int[] {-1, 64, 65, 127, -64, MIN, MAX}) {
            DUE.is("left(0, " + set + ")", x.left(0, set), NO);
        }
        for (int s = 0; s < 6; s++) {
            DUE.is("takes(0, s)", x.takes(0, s), 1 << s);
        }
    }

    private static void theLimitOrLess() {
        DUE.about("by which LEFT is the limit or less");
        SpreadDesk x = Due.told("Sa0 1;Sb0 2;Sc0 4;Sd0 8;Se0 16;Sf0 32;Fa+b+c+d+e+f;F7;");
        DUE.is("fewest(0, 64)", x.fewest(0, 64), 0);
        DUE.is("fewest(0, 63)", x.fewest(0, 63), 0);
        DUE.is("fewest(0, 62)", x.fewest(0, 62), 1);
        DUE.is("fewest(0, 61)", x.fewest(0, 61), 2);
        DUE.is("fewest(0, 31)", x.fewest(0, 31), 32);
        DUE.is("fewest(0, 30)", x.fewest(0, 30), 33);
        DUE.is("fewest(0, 1)", x.fewest(0, 1), 62);
        DUE.is("fewest(0, 0)", x.fewest(0, 0), 63);
        DUE.is("fewest(0, -1)", x.fewest(0, -1), NONE);
        DUE.is("fewest(0, max)", x.fewest(0, Long.MAX_VALUE), 0);
        DUE.is("fewest(0, min)", x.fewest(0, Long.MIN_VALUE), NONE);
        DUE.is("fewest(1, 0)", x.fewest(1, 0), 0);
        DUE.is("fewest(1, -1)", x.fewest(1, -1), NONE);
    }

    private static void asFewAsCanBe() {
        DUE.about("the set of as few SOURCES as can be");
        SpreadDesk x = Due.told("Sa0 5;Sb0 5;Sc0 5;Sf0 15;Fa+b+c+f;");
        DUE.is("f alone ahead of a, b, c", x.fewest(0, 15), 32);
        DUE.is("two", x.fewest(0, 14), 33);
        DUE.is("two", x.fewest(0, 10), 33);
        DUE.is("three", x.fewest(0, 9), 35);
        SpreadDesk y = Due.told("Sa0 9;Sb0 9;Cab-9;Cac-5;Fa+b+c;");
        DUE.is("whole(0)", y.whole(0), -10);
        DUE.is("none are few enough", y.fewest(0, 0), 0);
        DUE.is("none are few enough", y.fewest(0, -10), 0);
        DUE.is("sure sources may leave more", y.fewest(0, -11), NONE);
    }

    private static void ofSeveralTheLeastNumber() {
        DUE.about("of several the least number");
        SpreadDesk x = Due.told("Sb0 5;Sc0 5;Sd0 5;Se0 5;Fb+c+d+e;");
        DUE.is("of one", x.fewest(0, 15), 2);
        DUE.is("of two", x.fewest(0, 10), 6);
        DUE.is("of three", x.fewest(0, 5), 14);
        DUE.is("of four", x.fewest(0, 0), 30);
        SpreadDesk y = Due.told("Sa0 1;Sb0 1;Se0 2;Sf0 2;Fa+b+e+f;");
        DUE.is("a greater number leaves less", y.fewest(0, 5), 1);
        DUE.is("a greater number leaves less", y.fewest(0, 4), 16);
        DUE.is("a greater number leaves less", y.fewest(0, 3), 17);
        DUE.is("a greater number leaves less", y.fewest(0, 2), 48);
    }

    private static void noneIsFewEnough() {
        DUE.about("FEWEST: NONE");
        SpreadDesk x = Due.told("Sa0 5;Sb0 5;Cab-9;Fa+b;");
        DUE.is("whole(0)", x.whole(0), -8);
        DUE.is("left(0, 63)", x.left(0, 63), 0);
        DUE.is("fewest(0, -8)", x.fewest(0, -8), 0);
        DUE.is("fewest(0, -9)", x.fewest(0, -9), NONE);
        SpreadDesk y = Due.told("Sa0 9;Sb0 1;Sc0 1;Cbc-9;Fa+b+c;");
        DUE.is("left(0, 1)", y.left(0, 1), -16);
        DUE.is("fewest(0, -7)", y.fewest(0, -7), 0);
        DUE.is("fewest(0, -8)", y.fewest(0, -8), 1);
        DUE.is("fewest(0, -16)", y.fewest(0, -16), 1);
        DUE.is("fewest(0, -17)", y.fewest(0, -17), NONE);
    }

    private static void dOfOff() {
        DUE.about("OFF: d (-20 .. 20)");
        for (int v : new int[] {-99, 0, 99}) {
            SpreadDesk x = Due.told("Fa^2;Fa^3;");
            x.values(0, v);
            for (int d = -20; d <= 20; d++) {
                DUE.is("off(0, 0, " + d + ")", x.off(0, 0, d), d * d);
                DUE.is("off(1, 0, " + d + ")", x.off(1, 0, d), 3 * v * d * d + d * d * d);
                DUE.is("off(0, 5, " + d + ")", x.off(0, 5, d), 0);
            }
            for (int d : new int[] {-21, 21, MIN, MAX}) {
                DUE.is("off(0, 0, " + d + ")", x.off(0, 0, d), NO);
            }
            DUE.is("source(0, 0)", x.source(0, 0), v);
        }
    }

    private static void stepsOfOneNodeAndOfTheMost() {
        DUE.about("STEPS: those of each @ each time, too");
        SpreadDesk x = Due.told("F7;F@0;F@1;F@0*@0;");
        int[] few = {1, 2, 3, 5};
        for (int f = 0; f < 4; f++) {
            DUE.is("formula(" + f + ", 1)", x.formula(f, 1), few[f]);
        }
        SpreadDesk y = Due.told("Fa-a-a-a-a-a-a-a-a-a;F" + sumOfAt(0, 7) + ";F" + sumOfAt(1, 7) + ";F" + sumOfAt(2, 7)
            + ";");
        int[] most = {19, 13 + 7 * 19, 13 + 7 * 146, 13 + 7 * 1035};
        for (int f = 0; f < 4; f++) {
            DUE.is("formula(" + f + ", 1)", y.formula(f, 1), most[f]);
        }
        SpreadDesk z = Due.told("Fa-a-a-a-a-a-a-a-a--a;F" + sumOfAt(0, 10) + ";");
        DUE.is("nodes", z.formula(1, 0), 19);
        DUE.is("steps", z.formula(1, 1), 19 + 10 * 20);
    }

    private static String sumOfAt(int f, int times) {
        return ("@" + f + "+").repeat(times - 1) + "@" + f;
    }

    private static void sixSeenAtMost() {
        DUE.about("SEEN (6 at most)");
        SpreadDesk x = Due.told("Sa1 0;Fa;F2*a;");
        for (int n = 1; n <= 6; n++) {
            DUE.is("sees()", x.sees(n % 2, n % 2 == 0 ? 4 : 8), n);
            DUE.is("seen", x.count(1), n);
        }
        DUE.is("unseen(3)", x.unseen(3), 1);
        DUE.is("a seventh", x.sees(0, 5), FULL);
        DUE.is("seen", x.count(1), 6);
        DUE.is("unseen(3)", x.unseen(3), 1);
        DUE.is("forget()", x.forget(), 6);
        DUE.is("the first again", x.sees(0, 5), 1);
        DUE.is("unseen(4)", x.unseen(4), 1);
        SpreadDesk y = Due.told("Sa1 0;Fa;");
        for (int n = 1; n <= 5; n++) {
            y.sees(0, 4);
        }
        DUE.is("unseen(3)", y.unseen(3), 1);
        DUE.is("the sixth counts", y.sees(0, 5), 6);
        DUE.is("unseen(3)", y.unseen(3), 0);
    }

    private static void nothingSeen() {
        DUE.about("nothing is SEEN");
        SpreadDesk x = Due.told("Sa1 0;Fa;");
        for (int d = -20; d <= 20; d++) {
            DUE.is("unseen(" + d + ")", x.unseen(d), 63);
        }
        DUE.is("forget()", x.forget(), 0);
        DUE.is("seen", x.count(1), 0);
        x.sees(0, 99);
        DUE.is("unseen(0)", x.unseen(0), 0);
        DUE.is("forget()", x.forget(), 1);
        DUE.is("unseen(0)", x.unseen(0), 63);
        DUE.is("forget()", x.forget(), 0);
        DUE.is("without formulas", new SpreadDesk().unseen(20), 63);
    }

    private static void theSameForAllThatIsSeen() {
        DUE.about("one unknown SOURCE being d more, the same for all that is SEEN");
        SpreadDesk x = Due.told("Sa1 0;Sb2 0;Sf3 0;Fa+b;Fb+f;F@0*@1;");
        x.sees(0, 5);
        DUE.is("unseen(2): a or b", x.unseen(2), 3);
        x.sees(1, 5);
        DUE.is("unseen(2): a, which leaves b + f", x.unseen(2), 1);
        x.forget();
        x.sees(0, 5);
        x.sees(1, 6);
        DUE.is("unseen(2): not b by 2, then by 1", x.unseen(2), 0);
        DUE.is("unseen(1)", x.unseen(1), 0);
        x.forget();
        x.sees(0, 5);
        x.sees(1, 7);
        DUE.is("unseen(2): b", x.unseen(2), 2);
        x.sees(2, 35);
        DUE.is("unseen(2): b, by @ too", x.unseen(2), 2);
        x.sees(2, 36);
        DUE.is("unseen(2): none", x.unseen(2), 0);
        x.forget();
        x.sees(0, 3);
        DUE.is("unseen(7): those that it doesn't name", x.unseen(7), 60);
        DUE.is("unseen(0): all", x.unseen(0), 63);
    }

    private static void dOfUnseen() {
        DUE.about("UNSEEN for d (-20 .. 20)");
        SpreadDesk x = Due.told("Sa99 0;Sf-99 0;Fa;Ff;");
        for (int d : new int[] {-21, 21, 119, MIN, MAX}) {
            DUE.is("unseen(" + d + ")", x.unseen(d), BAD);
        }
        x.sees(0, 119);
        DUE.is("unseen(20)", x.unseen(20), 1);
        DUE.is("unseen(19)", x.unseen(19), 0);
        DUE.is("unseen(-20)", x.unseen(-20), 0);
        x.forget();
        x.sees(1, -119);
        DUE.is("unseen(-20)", x.unseen(-20), 32);
        DUE.is("unseen(20)", x.unseen(20), 0);
        DUE.is("source(5, 0)", x.source(5, 0), -99);
    }

    private static void images0And1() {
        DUE.about("IMAGES 0, 1");
        SpreadDesk x = Due.told("Sa1 2;Cab3;Fa;");
        for (int image : new int[] {-1, 2, 3, MIN, MAX}) {
            DUE.is("keep(" + image + ")", x.keep(image), BAD);
            DUE.is("back(" + image + ")", x.back(image), BAD);
        }
        DUE.is("keep(0)", x.keep(0), 1);
        x.values(0, 4);
        x.spreads(0, 5);
        x.joints(1, 0, 6);
        DUE.is("keep(1)", x.keep(1), 1);
        x.values(0, 7);
        DUE.is("back(0)", x.back(0), 1);
        figures(x, 1, 2, 3);
        x.values(0, 9);
        x.spreads(0, 9);
        x.joints(0, 1, 9);
        DUE.is("back(0): kept as it was", x.back(0), 1);
        figures(x, 1, 2, 3);
        DUE.is("back(1)", x.back(1), 1);
        figures(x, 4, 5, 6);
        for (int image = 0; image < 2; image++) {
            int other = 1 - image;
            x.values(0, 70 + image);
            DUE.is("keep(image) again", x.keep(image), 1);
            x.values(0, 80);
            DUE.is("keep(image) once more", x.keep(image), 1);
            DUE.is("back(other)", x.back(other), 1);
            DUE.is("source(0, 0)", x.source(0, 0), image == 0 ? 4 : 80);
            x.values(0, 8);
            DUE.is("back(image)", x.back(image), 1);
            figures(x, 80, 5, 6);
        }
        DUE.is("images of no formulas", new SpreadDesk().keep(0), 0);
        DUE.is("images of four", Due.told("Fa;Fa;Fa;Fa;").keep(1), 4);
    }

    private static void figures(SpreadDesk x, int value, int spread, int joint) {
        DUE.is("source(0, 0)", x.source(0, 0), value);
        DUE.is("source(0, 1)", x.source(0, 1), spread);
        DUE.is("joint(0, 1)", x.joint(0, 1), joint);
        DUE.is("joint(1, 0)", x.joint(1, 0), joint);
    }

    private static void noneWasKept() {
        DUE.about("back: none was kept");
        SpreadDesk x = new SpreadDesk();
        DUE.is("back(0)", x.back(0), STATE);
        DUE.is("back(1)", x.back(1), STATE);
        x.keep(0);
        DUE.is("back(0)", x.back(0), 0);
        DUE.is("back(1)", x.back(1), STATE);
        SpreadDesk y = Due.told("Fa;");
        y.keep(1);
        DUE.is("back(0)", y.back(0), STATE);
        DUE.is("back(1)", y.back(1), 1);
        DUE.is("back(1) again", y.back(1), 1);
    }

    private static void nothingUndoneBehindBack() {
        DUE.about("nothing can be UNDONE behind back()");
        SpreadDesk x = Due.told("Sa1 2;Fa;");
        x.values(0, 3);
        x.keep(0);
        DUE.is("keep() leaves it", x.count(3), 1);
        x.values(0, 4);
        DUE.is("back(1): refused", x.back(1), STATE);
        DUE.is("undoable", x.count(3), 2);
        DUE.is("back(0)", x.back(0), 1);
        DUE.is("undoable", x.count(3), 0);
        DUE.is("undo()", x.undo(), STATE);
        DUE.is("source(0, 0)", x.source(0, 0), 3);
        x.values(0, 5);
        DUE.is("undo() of what came after", x.undo(), 0);
        DUE.is("source(0, 0)", x.source(0, 0), 3);
    }

    private static void imagesKeepNothingElse() {
        DUE.about("IMAGES keep VALUES, SPREADS, JOINTS; nothing else");
        SpreadDesk x = Due.told("Sa1 2;Fa;");
        x.keep(0);
        x.sees(0, 4);
        Due.type(x, "Fb");
        x.values(0, 2);
        x.keep(1);
        x.sees(0, 5);
        x.back(0);
        DUE.is("seen", x.count(1), 2);
        DUE.is("letters", x.count(2), 2);
        DUE.is("formulas", x.count(0), 1);
        x.forget();
        x.sees(0, 4);
        x.back(1);
        DUE.is("seen", x.count(1), 1);
        DUE.is("unseen(2)", x.unseen(2), 1);
        Due.type(x, ";");
        DUE.is("desk()", x.desk(), 1);
    }

    private static void readAnew() {
        DUE.about("Read anew: as told, else as at first");
        SpreadDesk x = Due.told("Sa1 2;Sb3 4;Cab5;Fa;Fb;");
        x.values(0, 6);
        x.spreads(5, 7);
        x.joints(4, 5, 8);
        x.sees(0, 9);
        x.keep(0);
        x.keep(1);
        DUE.is("desk()", Due.tell(x, "Sb9 8;Fb*2;"), 2);
        int[][] due = {{0, 0}, {9, 8}, {0, 0}, {0, 0}, {0, 0}, {0, 0}};
        for (int s = 0; s < 6; s++) {
            DUE.is("source(s, 0)", x.source(s, 0), due[s][0]);
            for (int t = 0; t < 6; t++) {
                DUE.is("joint(s, t)", x.joint(s, t), s == t ? due[s][1] : 0);
            }
        }
        DUE.is("formulas", x.count(0), 1);
        DUE.is("value(0)", x.value(0), 18);
        DUE.is("value(1)", x.value(1), NO);
        DUE.is("undoable", x.count(3), 0);
        DUE.is("undo()", x.undo(), STATE);
        DUE.is("seen", x.count(1), 0);
        DUE.is("unseen(1)", x.unseen(1), 63);
        DUE.is("back(0)", x.back(0), STATE);
        DUE.is("back(1)", x.back(1), STATE);
        DUE.is("letters", x.count(2), 0);
    }

    private static void elseAsAtFirst() {
        DUE.about("Read anew: else as at first, whatever was told before, with a fault too");
        StringBuilder joints = new StringBuilder();
        StringBuilder sources = new StringBuilder();
        for (char s = 'a'; s <= 'f'; s++) {
            sources.append('S').append(s).append("8 9;");
            for (char t = 'a'; t < s; t++) {
                joints.append('C').append(s).append(t).append("7;");
            }
        }
        SpreadDesk x = Due.told(joints.toString());
        allFigures(x, 0, 0, 7);
        DUE.is("desk()", Due.tell(x, sources.toString()), 6);
        allFigures(x, 8, 9, 0);
        DUE.is("desk() with a fault", Due.tell(x, joints + "F"), -86);
        DUE.is("desk() of nothing", Due.tell(x, ""), 0);
        allFigures(x, 0, 0, 0);
        DUE.is("desk() with a fault", Due.tell(x, sources + "Fa;Fb;F+"), -53);
        DUE.is("desk()", Due.tell(x, "Fc;"), 1);
        allFigures(x, 0, 0, 0);
        DUE.is("formulas", x.count(0), 1);
        DUE.is("sources that it names", x.formula(0, 2), 4);
    }

    private static void allFigures(SpreadDesk x, int value, int spread, int joint) {
        for (int s = 0; s < 6; s++) {
            DUE.is("source(s, 0)", x.source(s, 0), value);
            for (int t = 0; t <= s; t++) {
                DUE.is("joint(s, t)", x.joint(s, t), s == t ? spread : joint);
            }
        }
    }

    private static void asMuchAsCanBeReadAnew() {
        DUE.about("Read anew: four FORMULAS of 20 NODES, again and again");
        SpreadDesk x = new SpreadDesk();
        String twenty = "F-" + "a+".repeat(9) + "a;";
        for (int time = 0; time < 5; time++) {
            DUE.is("desk()", Due.tell(x, twenty.repeat(4).replace('a', (char) ('a' + time))), 4);
            for (int f = 0; f < 4; f++) {
                DUE.is("formula(f, 0)", x.formula(f, 0), 20);
                DUE.is("formula(f, 2)", x.formula(f, 2), 1 << time);
            }
        }
    }

    // ---- promises

    private static void lettersFrom0To255() {
        DUE.about("A letter (0 .. 255)");
        SpreadDesk x = new SpreadDesk();
        for (int letter : new int[] {-1, 256, 257, 256 + 'F', -128, MIN, MAX}) {
            DUE.is("type(" + letter + ")", x.type(letter), BAD);
        }
        DUE.is("letters", x.count(2), 0);
        DUE.is("type(0)", x.type(0), 1);
        DUE.is("type(255)", x.type(255), 2);
        DUE.is("type(127)", x.type(127), 3);
        DUE.is("type(128)", x.type(128), 4);
        DUE.is("clear()", x.clear(), 4);
        for (int letter = 0; letter < 256; letter++) {
            if (letter == 100) {
                DUE.is("clear()", x.clear(), 100);
            } else if (letter == 200) {
                DUE.is("clear()", x.clear(), 99);
            } else {
                DUE.is("type(" + letter + ")", x.type(letter), letter % 100 + (letter < 100 ? 1 : 0));
            }
        }
    }

    private static void whatOfSource() {
        DUE.about("VALUE (what = 0), SPREAD (1)");
        SpreadDesk x = Due.told("Sc4 5;");
        DUE.is("source(2, 0)", x.source(2, 0), 4);
        DUE.is("source(2, 1)", x.source(2, 1), 5);
        for (int what : new int[] {-1, 2, 3, MIN, MAX}) {
            DUE.is("source(2, " + what + ")", x.source(2, what), NO);
        }
    }

    private static void whatOfFirst() {
        DUE.about("of greatest TAKES (what = 0), of greatest SHARE (1)");
        SpreadDesk x = Due.told("Sa0 3;Sb0 4;Sc0 5;Cab9;Cbc-2;Fa+b+c;");
        DUE.is("takes(0, 1)", x.takes(0, 1), 18);
        DUE.is("takes(0, 0)", x.takes(0, 0), 21);
        DUE.is("share(0, 1)", x.share(0, 1), 11);
        DUE.is("share(0, 0)", x.share(0, 0), 12);
        DUE.is("first(0, 0)", x.first(0, 0), 0);
        DUE.is("first(0, 1)", x.first(0, 1), 0);
        SpreadDesk y = Due.told("Sa0 9;Sb0 4;Sc0 4;Cbc4;Fa+b+c;");
        DUE.is("takes of a, b", y.takes(0, 0) * 100 + y.takes(0, 1), 912);
        DUE.is("shares of a, b", y.share(0, 0) * 100 + y.share(0, 1), 908);
        DUE.is("first(0, 0)", y.first(0, 0), 1);
        DUE.is("first(0, 1)", y.first(0, 1), 0);
        for (int what : new int[] {-1, 2, 3, MIN, MAX}) {
            DUE.is("first(0, " + what + ")", y.first(0, what), BAD);
        }
    }

    private static void ofSeveralTheLowest() {
        DUE.about("of several the lowest");
        for (int what = 0; what < 2; what++) {
            SpreadDesk x = Due.told("Fa+b+c+d+e+f;");
            DUE.is("all are 0", x.first(0, what), 0);
            x.spreads(5, 9);
            DUE.is("f alone", x.first(0, what), 5);
            x.spreads(4, 9);
            DUE.is("e and f", x.first(0, what), 4);
            x.spreads(1, 9);
            DUE.is("b, e and f", x.first(0, what), 1);
            x.spreads(5, 10);
            DUE.is("f is greater by one", x.first(0, what), 5);
            x.spreads(1, 0);
            x.spreads(4, 0);
            x.spreads(5, 0);
            x.joints(0, 1, -9);
            DUE.is("a, b are below 0", x.first(0, what), 2);
            x.joints(2, 3, -9);
            x.joints(4, 5, -9);
            DUE.is("all are below 0", x.first(0, what), 0);
            SpreadDesk y = Due.told("Sa0 5;Sb0 5;Sf0 9;Cab-9;Fa+b;");
            DUE.is("f, which it doesn't name, is no greater than c", y.first(0, what), 2);
        }
    }

    private static void whatOfFormula() {
        DUE.about("NODES (what = 0), STEPS (1), SOURCES that it names (2)");
        SpreadDesk x = Due.told("Ff;F@0+@0;");
        DUE.is("formula(1, 0)", x.formula(1, 0), 3);
        DUE.is("formula(1, 1)", x.formula(1, 1), 5);
        DUE.is("formula(1, 2)", x.formula(1, 2), 32);
        for (int what : new int[] {-1, 3, 4, MIN, MAX}) {
            DUE.is("formula(1, " + what + ")", x.formula(1, what), BAD);
        }
    }

    private static void namesOfFormulas() {
        DUE.about("SOURCES that it names, itself or by @");
        SpreadDesk x = Due.told("F7;Fa*0+f^0;F@1-e;F@2*@0;");
        int[] due = {0, 33, 49, 49};
        for (int f = 0; f < 4; f++) {
            DUE.is("formula(" + f + ", 2)", x.formula(f, 2), due[f]);
        }
        DUE.is("all", Due.told("Fa+b+c+d+e+f;").formula(0, 2), 63);
    }

    private static void whatOfCount() {
        DUE.about("0 FORMULAS, 1 SEEN, 2 letters, 3 how many may be UNDONE");
        SpreadDesk x = Due.told("Fa;Fa;");
        Due.type(x, "abcd");
        for (int v = 1; v <= 11; v++) {
            x.values(0, v);
            x.sees(0, v);
        }
        int[] due = {2, 6, 4, 10};
        for (int what = 0; what < 4; what++) {
            DUE.is("count(" + what + ")", x.count(what), due[what]);
        }
        for (int what : new int[] {-1, 4, 5, MIN, MAX}) {
            DUE.is("count(" + what + ")", x.count(what), BAD);
        }
    }
}
