/** Each promise by its number: ordinary inputs, the edges that the document names, wrong inputs. */
public final class PromisesTest {
    private static final Due DUE = new Due();
    private static final int BAD = -1;
    private static final int STATE = -2;
    private static final int FULL = -3;
    private static final int NONE = -9;
    private static final long NO = -9000000000000000000L;
    private static final int[] NO_SOURCE = {-1, 6, Integer.MIN_VALUE, Integer.MAX_VALUE};
    private static final int[] NO_FORMULA = {-1, 4, Integer.MIN_VALUE, Integer.MAX_VALUE};

    /** f0 = a*b+c^2, f1 = @0-@0, f2 = a^3*(b-c), f3 = @2+2*@0-a. */
    private static final String FOUR =
        "Sa3 4;Sb-2 9;Sc5 1;Cab-3;Cbc2;Fa*b+c^2;F@0-@0;Fa^3*(b-c);F@2+2*@0-a;";

    public static void main(String[] args) {
        constants();
        newObject();
        type();
        clear();
        desk();
        source();
        joint();
        values();
        spreads();
        joints();
        undo();
        undoKnowsTen();
        value();
        slope();
        bend();
        whole();
        together();
        share();
        left();
        fewest();
        takes();
        first();
        off();
        sees();
        forget();
        unseen();
        keep();
        back();
        formula();
        count();
        DUE.end();
    }

    private static void constants() {
        DUE.about("constants");
        DUE.is("BAD", SpreadDesk.BAD, -1);
        DUE.is("STATE", SpreadDesk.STATE, -2);
        DUE.is("FULL", SpreadDesk.FULL, -3);
        DUE.is("NONE", SpreadDesk.NONE, -9);
        DUE.is("NO", SpreadDesk.NO, NO);
    }

    private static void newObject() {
        DUE.about("1 new object");
        SpreadDesk x = new SpreadDesk();
        for (int s = 0; s < 6; s++) {
            DUE.is("source(s, 0)", x.source(s, 0), 0);
            DUE.is("source(s, 1)", x.source(s, 1), 0);
            for (int t = 0; t < 6; t++) {
                DUE.is("joint(s, t)", x.joint(s, t), 0);
            }
        }
        for (int what = 0; what < 4; what++) {
            DUE.is("count(what)", x.count(what), 0);
            DUE.is("value(f)", x.value(what), NO);
        }
        DUE.is("undo()", x.undo(), STATE);
        DUE.is("back(0)", x.back(0), STATE);
        DUE.is("back(1)", x.back(1), STATE);
        DUE.is("unseen(3)", x.unseen(3), 63);
        DUE.is("clear()", x.clear(), 0);
        DUE.is("forget()", x.forget(), 0);
    }

    private static void type() {
        DUE.about("2 type");
        SpreadDesk x = new SpreadDesk();
        DUE.is("type(-1)", x.type(-1), BAD);
        DUE.is("type(256)", x.type(256), BAD);
        DUE.is("type(min)", x.type(Integer.MIN_VALUE), BAD);
        DUE.is("type(max)", x.type(Integer.MAX_VALUE), BAD);
        DUE.is("type(0)", x.type(0), 1);
        DUE.is("type(255)", x.type(255), 2);
        for (int i = 3; i <= 100; i++) {
            DUE.is("type('a')", x.type('a'), i);
        }
        DUE.is("the 101st letter", x.type('a'), FULL);
        DUE.is("a bad letter when full", x.type(256), BAD);
        DUE.is("count(2)", x.count(2), 100);
        DUE.is("clear()", x.clear(), 100);
        DUE.is("type('F')", x.type('F'), 1);
        SpreadDesk y = new SpreadDesk();
        Due.type(y, "Fa+b+c+d+e+f;" + " ".repeat(82) + "Sf7 8;");
        DUE.is("101 letters, the last lost", y.desk(), -110);
        y.clear();
        Due.type(y, "Fa+b+c+d+e+f;" + " ".repeat(81) + "Sf7 8;");
        DUE.is("100 letters", y.desk(), 2);
        DUE.is("value(0)", y.value(0), 7);
    }

    private static void clear() {
        DUE.about("3 clear");
        SpreadDesk x = Due.told("Sa5 6;Fa;");
        DUE.is("clear() of none", x.clear(), 0);
        Due.type(x, "Sa$");
        DUE.is("clear()", x.clear(), 3);
        DUE.is("clear() again", x.clear(), 0);
        DUE.is("count(2)", x.count(2), 0);
        DUE.is("value(0)", x.value(0), 5);
        Due.type(x, "Fb;");
        DUE.is("desk()", x.desk(), 1);
    }

    private static void desk() {
        DUE.about("4 desk");
        SpreadDesk x = Due.told(FOUR);
        x.values(4, 77);
        x.sees(0, 19);
        x.keep(0);
        x.keep(1);
        Due.type(x, "Sa1 1;Fb+;");
        DUE.is("desk() with a fault", x.desk(), -19);
        DUE.is("letters", x.count(2), 10);
        DUE.is("source(0, 0)", x.source(0, 0), 3);
        DUE.is("source(4, 0)", x.source(4, 0), 77);
        DUE.is("formulas", x.count(0), 4);
        DUE.is("value(0)", x.value(0), 19);
        DUE.is("seen", x.count(1), 1);
        DUE.is("undoable", x.count(3), 1);
        DUE.is("desk() again", x.desk(), -19);
        DUE.is("undo()", x.undo(), 0);
        DUE.is("back(0)", x.back(0), 4);
        DUE.is("source(4, 0) of the image", x.source(4, 0), 77);
        x.values(4, 78);

        DUE.is("desk()", Due.tell(x, "Sb1 2;Cae3;Fb;"), 3);
        DUE.is("letters", x.count(2), 0);
        DUE.is("source(0, 0)", x.source(0, 0), 0);
        DUE.is("source(0, 1)", x.source(0, 1), 0);
        DUE.is("source(1, 0)", x.source(1, 0), 1);
        DUE.is("source(1, 1)", x.source(1, 1), 2);
        DUE.is("source(4, 0)", x.source(4, 0), 0);
        DUE.is("joint(0, 1)", x.joint(0, 1), 0);
        DUE.is("joint(4, 0)", x.joint(4, 0), 3);
        DUE.is("formulas", x.count(0), 1);
        DUE.is("seen", x.count(1), 0);
        DUE.is("undo()", x.undo(), STATE);
        DUE.is("back(0)", x.back(0), STATE);
        DUE.is("back(1)", x.back(1), STATE);
        DUE.is("value(0)", x.value(0), 1);
        DUE.is("value(1)", x.value(1), NO);

        x.values(0, 5);
        DUE.is("desk() on no text", x.desk(), 0);
        DUE.is("formulas", x.count(0), 0);
        DUE.is("source(0, 0)", x.source(0, 0), 0);
        DUE.is("source(1, 0)", x.source(1, 0), 0);
        DUE.is("undo()", x.undo(), STATE);
    }

    private static void source() {
        DUE.about("5 source");
        SpreadDesk x = Due.told("Sa1 2;Sb-99 99;Sf99 0;");
        long[][] due = {{1, 2}, {-99, 99}, {0, 0}, {0, 0}, {0, 0}, {99, 0}};
        for (int s = 0; s < 6; s++) {
            DUE.is("source(s, 0)", x.source(s, 0), due[s][0]);
            DUE.is("source(s, 1)", x.source(s, 1), due[s][1]);
        }
        DUE.is("source(0, 2)", x.source(0, 2), NO);
        DUE.is("source(0, -1)", x.source(0, -1), NO);
        for (int s : NO_SOURCE) {
            DUE.is("source(no source, 0)", x.source(s, 0), NO);
            DUE.is("source(no source, 1)", x.source(s, 1), NO);
        }
    }

    private static void joint() {
        DUE.about("6 joint");
        SpreadDesk x = Due.told("Cab5;Cfa-99;Sc7 8;");
        DUE.is("joint(0, 1)", x.joint(0, 1), 5);
        DUE.is("joint(1, 0)", x.joint(1, 0), 5);
        DUE.is("joint(0, 5)", x.joint(0, 5), -99);
        DUE.is("joint(5, 0)", x.joint(5, 0), -99);
        DUE.is("joint(2, 2)", x.joint(2, 2), 8);
        DUE.is("joint(1, 2)", x.joint(1, 2), 0);
        for (int s : NO_SOURCE) {
            DUE.is("joint(0, no source)", x.joint(0, s), NO);
            DUE.is("joint(no source, 0)", x.joint(s, 0), NO);
            DUE.is("joint(no source, itself)", x.joint(s, s), NO);
        }
    }

    private static void values() {
        DUE.about("7 values");
        SpreadDesk x = Due.told("Sa1 2;Fa+f;");
        DUE.is("values(0, 5)", x.values(0, 5), 1);
        DUE.is("values(0, 5)", x.values(0, 5), STATE);
        DUE.is("source(0, 0)", x.source(0, 0), 5);
        DUE.is("source(0, 1)", x.source(0, 1), 2);
        DUE.is("values(5, -99)", x.values(5, -99), 1);
        DUE.is("value(0)", x.value(0), -94);
        DUE.is("values(5, 99)", x.values(5, 99), 1);
        DUE.is("values(3, 0)", x.values(3, 0), STATE);
        DUE.is("undoable", x.count(3), 3);
        DUE.is("values(0, 100)", x.values(0, 100), BAD);
        DUE.is("values(0, -100)", x.values(0, -100), BAD);
        DUE.is("values(0, max)", x.values(0, Integer.MAX_VALUE), BAD);
        DUE.is("values(0, min)", x.values(0, Integer.MIN_VALUE), BAD);
        for (int s : NO_SOURCE) {
            DUE.is("values(no source, 0)", x.values(s, 0), BAD);
        }
        DUE.is("undoable", x.count(3), 3);
        DUE.is("source(0, 0)", x.source(0, 0), 5);
    }

    private static void spreads() {
        DUE.about("8 spreads");
        SpreadDesk x = Due.told("Sa1 2;Cab3;Fa;");
        DUE.is("spreads(0, 99)", x.spreads(0, 99), 2);
        DUE.is("spreads(0, 0)", x.spreads(0, 0), 99);
        DUE.is("spreads(0, 0)", x.spreads(0, 0), 0);
        DUE.is("undoable: setting it to what it is counts", x.count(3), 3);
        DUE.is("spreads(0, 7)", x.spreads(0, 7), 0);
        DUE.is("source(0, 1)", x.source(0, 1), 7);
        DUE.is("source(0, 0)", x.source(0, 0), 1);
        DUE.is("joint(0, 1)", x.joint(0, 1), 3);
        DUE.is("whole(0)", x.whole(0), 7);
        DUE.is("spreads(0, -1)", x.spreads(0, -1), BAD);
        DUE.is("spreads(0, 100)", x.spreads(0, 100), BAD);
        for (int s : NO_SOURCE) {
            DUE.is("spreads(no source, 0)", x.spreads(s, 0), BAD);
        }
        DUE.is("undoable", x.count(3), 4);
    }

    private static void joints() {
        DUE.about("9 joints");
        SpreadDesk x = Due.told("Sa1 2;Cab3;Fa+b;");
        DUE.is("joints(1, 0, -99)", x.joints(1, 0, -99), 1);
        DUE.is("joint(0, 1)", x.joint(0, 1), -99);
        DUE.is("joint(1, 0)", x.joint(1, 0), -99);
        DUE.is("joints(0, 1, -99)", x.joints(0, 1, -99), STATE);
        DUE.is("joints(0, 1, 99)", x.joints(0, 1, 99), 1);
        DUE.is("joints(4, 5, 0)", x.joints(4, 5, 0), STATE);
        DUE.is("whole(0)", x.whole(0), 200);
        DUE.is("undoable", x.count(3), 2);
        DUE.is("joints(0, 0, 5)", x.joints(0, 0, 5), BAD);
        DUE.is("joints(0, 0, 2)", x.joints(0, 0, 2), BAD);
        DUE.is("joints(0, 1, 100)", x.joints(0, 1, 100), BAD);
        DUE.is("joints(0, 1, -100)", x.joints(0, 1, -100), BAD);
        for (int s : NO_SOURCE) {
            DUE.is("joints(0, no source, 0)", x.joints(0, s, 0), BAD);
            DUE.is("joints(no source, 0, 0)", x.joints(s, 0, 0), BAD);
        }
        DUE.is("source(0, 1)", x.source(0, 1), 2);
        DUE.is("undoable", x.count(3), 2);
    }

    private static void undo() {
        DUE.about("10 undo");
        SpreadDesk x = Due.told("Sa1 2;Cab3;Fa;");
        DUE.is("undo()", x.undo(), STATE);
        x.values(0, 5);
        x.spreads(0, 6);
        x.joints(1, 0, 7);
        x.values(0, 8);
        x.spreads(0, 6);
        x.values(0, 8);
        x.values(0, 100);
        DUE.is("undo() of spreads(0, 6) again", x.undo(), 4);
        DUE.is("source(0, 1)", x.source(0, 1), 6);
        DUE.is("source(0, 0)", x.source(0, 0), 8);
        DUE.is("undo() of values(0, 8)", x.undo(), 3);
        DUE.is("source(0, 0)", x.source(0, 0), 5);
        DUE.is("value(0)", x.value(0), 5);
        DUE.is("undo() of joints(1, 0, 7)", x.undo(), 2);
        DUE.is("joint(0, 1)", x.joint(0, 1), 3);
        DUE.is("joint(1, 0)", x.joint(1, 0), 3);
        DUE.is("undo() of spreads(0, 6)", x.undo(), 1);
        DUE.is("source(0, 1)", x.source(0, 1), 2);
        x.sees(0, 4);
        DUE.is("undo() of values(0, 5)", x.undo(), 0);
        DUE.is("source(0, 0)", x.source(0, 0), 1);
        DUE.is("seen", x.count(1), 1);
        DUE.is("undo()", x.undo(), STATE);
    }

    private static void undoKnowsTen() {
        DUE.about("10 undo of more than ten");
        SpreadDesk x = new SpreadDesk();
        for (int v = 1; v <= 13; v++) {
            x.values(0, v);
            DUE.is("undoable", x.count(3), Math.min(v, 10));
        }
        for (int n = 9; n >= 5; n--) {
            DUE.is("undo()", x.undo(), n);
            DUE.is("source(0, 0)", x.source(0, 0), n + 3);
        }
        x.spreads(1, 4);
        x.joints(1, 2, 5);
        DUE.is("undoable", x.count(3), 7);
        for (int n = 6; n >= 0; n--) {
            DUE.is("undo()", x.undo(), n);
        }
        DUE.is("source(0, 0)", x.source(0, 0), 3);
        DUE.is("source(1, 1)", x.source(1, 1), 0);
        DUE.is("joint(2, 1)", x.joint(2, 1), 0);
        DUE.is("undo()", x.undo(), STATE);
    }

    private static void value() {
        DUE.about("11 value");
        SpreadDesk x = Due.told(FOUR);
        long[] due = {19, 0, -189, -154};
        for (int f = 0; f < 4; f++) {
            DUE.is("value(f)", x.value(f), due[f]);
        }
        for (int f : NO_FORMULA) {
            DUE.is("value(no formula)", x.value(f), NO);
        }
        SpreadDesk y = Due.told("Sf99 0;Ff^4*f^4*f^4;F@0*@0^3;");
        DUE.is("value(0) cut to 64 bits", y.value(0), 372230311615958385L);
        DUE.is("value(1) cut to 64 bits", y.value(1), cutPower(99, 48));
        DUE.is("value(2)", y.value(2), NO);
    }

    private static void slope() {
        DUE.about("12 slope");
        SpreadDesk x = Due.told(FOUR);
        long[][] due = {{-2, 3, 10, 0, 0, 0}, {0, 0, 0, 0, 0, 0}, {-189, 27, -27, 0, 0, 0},
            {-194, 33, -7, 0, 0, 0}};
        for (int f = 0; f < 4; f++) {
            for (int s = 0; s < 6; s++) {
                DUE.is("slope(f, s)", x.slope(f, s), due[f][s]);
            }
        }
        for (int s : NO_SOURCE) {
            DUE.is("slope(0, no source)", x.slope(0, s), NO);
        }
        for (int f : NO_FORMULA) {
            DUE.is("slope(no formula, 0)", x.slope(f, 0), NO);
        }
        SpreadDesk y = Due.told("Sf99 0;Fa^0;Fa^1;Fa^2;Ff^4*f^4*f^4;");
        DUE.is("slope of a^0 at 0", y.slope(0, 0), 0);
        DUE.is("slope of a^1 at 0", y.slope(1, 0), 1);
        DUE.is("slope of a^2 at 0", y.slope(2, 0), 0);
        DUE.is("slope of f^12", y.slope(3, 5), 12 * cutPower(99, 11));
    }

    private static void bend() {
        DUE.about("13 bend");
        SpreadDesk x = Due.told(FOUR);
        DUE.is("bend(0, 0, 1)", x.bend(0, 0, 1), 1);
        DUE.is("bend(0, 2, 2)", x.bend(0, 2, 2), 2);
        DUE.is("bend(2, 0, 0)", x.bend(2, 0, 0), 6 * 3 * -7);
        DUE.is("bend(2, 0, 2)", x.bend(2, 0, 2), -27);
        DUE.is("bend(3, 1, 0)", x.bend(3, 1, 0), 29);
        DUE.is("bend(3, 2, 2)", x.bend(3, 2, 2), 4);
        DUE.is("bend(3, 5, 5)", x.bend(3, 5, 5), 0);
        for (int s : NO_SOURCE) {
            DUE.is("bend(0, 0, no source)", x.bend(0, 0, s), NO);
            DUE.is("bend(0, no source, 0)", x.bend(0, s, 0), NO);
        }
        for (int f : NO_FORMULA) {
            DUE.is("bend(no formula, 0, 0)", x.bend(f, 0, 0), NO);
        }
        SpreadDesk y = Due.told("Sf99 0;Fa^0;Fa^1;Fa^2;Ff^4*f^4*f^4;");
        DUE.is("bend of a^0 at 0", y.bend(0, 0, 0), 0);
        DUE.is("bend of a^1 at 0", y.bend(1, 0, 0), 0);
        DUE.is("bend of a^2 at 0", y.bend(2, 0, 0), 2);
        DUE.is("bend of f^12", y.bend(3, 5, 5), 132 * cutPower(99, 10));
    }

    private static void whole() {
        DUE.about("14 whole");
        SpreadDesk x = Due.told(FOUR);
        long[] due = {353, 0, 177876, 197882};
        for (int f = 0; f < 4; f++) {
            DUE.is("whole(f)", x.whole(f), due[f]);
        }
        for (int f : NO_FORMULA) {
            DUE.is("whole(no formula)", x.whole(f), NO);
        }
        SpreadDesk y = Due.told("Sf99 99;Ff^4*f^4*f^4;");
        DUE.is("whole(0) cut to 64 bits", y.whole(0), 7494341177456047152L);
        SpreadDesk z = Due.told("Sa1 1;Sb1 1;Cab-9;Fa+b;");
        DUE.is("whole(0) below 0", z.whole(0), -16);
    }

    private static void together() {
        DUE.about("15 together");
        SpreadDesk x = Due.told("Sa2 3;Sb2 5;Sc1 7;Cab2;Cac-1;Fa-b;Fa+b+c;F7;");
        DUE.is("together(0, 1)", x.together(0, 1), 3 + 2 - 1 - 2 - 5);
        DUE.is("together(1, 0)", x.together(1, 0), 3 + 2 - 1 - 2 - 5);
        DUE.is("together(0, 0)", x.together(0, 0), x.whole(0));
        DUE.is("whole(0)", x.whole(0), 3 + 5 - 4);
        DUE.is("together(1, 1)", x.together(1, 1), 3 + 5 + 7 + 4 - 2);
        DUE.is("together(1, 2)", x.together(1, 2), 0);
        for (int f : new int[] {-1, 3, 4, Integer.MIN_VALUE, Integer.MAX_VALUE}) {
            DUE.is("together(0, no formula)", x.together(0, f), NO);
            DUE.is("together(no formula, 0)", x.together(f, 0), NO);
        }
    }

    private static void share() {
        DUE.about("16 share");
        SpreadDesk x = Due.told(FOUR);
        long[][] due = {{34, 159, 160, 0, 0, 0}, {0, 0, 0, 0, 0, 0}, {158193, 20412, -729, 0, 0, 0},
            {169750, 28545, -413, 0, 0, 0}};
        for (int f = 0; f < 4; f++) {
            long sum = 0;
            for (int s = 0; s < 6; s++) {
                DUE.is("share(f, s)", x.share(f, s), due[f][s]);
                sum += x.share(f, s);
            }
            DUE.is("the shares make up the whole", sum, x.whole(f));
        }
        for (int s : NO_SOURCE) {
            DUE.is("share(0, no source)", x.share(0, s), NO);
        }
        for (int f : NO_FORMULA) {
            DUE.is("share(no formula, 0)", x.share(f, 0), NO);
        }
    }

    private static void left() {
        DUE.about("17 left");
        SpreadDesk x = Due.told("Sa1 1;Sb1 2;Sc1 4;Cab8;Cbc16;Cac32;Fa+b+c;");
        long[] due = {119, 38, 69, 4, 19, 2, 1, 0};
        for (int set = 0; set < 64; set++) {
            DUE.is("left(0, " + set + ")", x.left(0, set), due[set & 7]);
        }
        DUE.is("whole(0)", x.whole(0), 119);
        DUE.is("source(0, 1)", x.source(0, 1), 1);
        for (int set : new int[] {-1, 64, Integer.MIN_VALUE, Integer.MAX_VALUE}) {
            DUE.is("left(0, no set)", x.left(0, set), NO);
        }
        for (int f : NO_FORMULA) {
            DUE.is("left(no formula, 0)", x.left(f, 0), NO);
        }
    }

    private static void fewest() {
        DUE.about("18 fewest");
        SpreadDesk x = Due.told("Sa1 1;Sb1 2;Sc1 4;Cab8;Cbc16;Cac32;Fa+b+c;");
        DUE.is("fewest(0, max)", x.fewest(0, Long.MAX_VALUE), 0);
        DUE.is("fewest(0, 119)", x.fewest(0, 119), 0);
        DUE.is("fewest(0, 118)", x.fewest(0, 118), 1);
        DUE.is("fewest(0, 69)", x.fewest(0, 69), 1);
        DUE.is("fewest(0, 37)", x.fewest(0, 37), 4);
        DUE.is("fewest(0, 19)", x.fewest(0, 19), 4);
        DUE.is("fewest(0, 18)", x.fewest(0, 18), 3);
        DUE.is("fewest(0, 4)", x.fewest(0, 4), 3);
        DUE.is("fewest(0, 3)", x.fewest(0, 3), 5);
        DUE.is("fewest(0, 1)", x.fewest(0, 1), 6);
        DUE.is("fewest(0, 0)", x.fewest(0, 0), 7);
        DUE.is("fewest(0, -1)", x.fewest(0, -1), NONE);
        DUE.is("fewest(0, min)", x.fewest(0, Long.MIN_VALUE), NONE);
        for (int f : NO_FORMULA) {
            DUE.is("fewest(no formula, 0)", x.fewest(f, 0), BAD);
        }
        SpreadDesk y = Due.told("Sd1 5;Se1 5;Sf1 5;Cde-9;Cdf-9;Cef-9;Fd+e+f;");
        DUE.is("left(0, 32)", y.left(0, 32), -8);
        DUE.is("fewest(0, -39)", y.fewest(0, -39), 0);
        DUE.is("fewest(0, -40)", y.fewest(0, -40), NONE);
        SpreadDesk z = Due.told("Sa1 9;Sb1 9;Sc1 9;Cbc-9;Fa+b+c;");
        DUE.is("fewest(0, 8)", z.fewest(0, 8), 1);
        DUE.is("fewest(0, -1)", z.fewest(0, -1), NONE);
    }

    private static void takes() {
        DUE.about("19 takes");
        SpreadDesk x = Due.told(FOUR);
        long[][] due = {{52, 237, 220, 0, 0, 0}, {0, 0, 0, 0, 0, 0}, {173502, 34263, -2187, 0, 0, 0},
            {188956, 47289, -875, 0, 0, 0}};
        for (int f = 0; f < 4; f++) {
            for (int s = 0; s < 6; s++) {
                DUE.is("takes(f, s)", x.takes(f, s), due[f][s]);
                DUE.is("whole less left", x.whole(f) - x.left(f, 1 << s), due[f][s]);
            }
        }
        for (int s : NO_SOURCE) {
            DUE.is("takes(0, no source)", x.takes(0, s), NO);
        }
        for (int f : NO_FORMULA) {
            DUE.is("takes(no formula, 0)", x.takes(f, 0), NO);
        }
    }

    private static void first() {
        DUE.about("20 first");
        SpreadDesk x = Due.told(FOUR);
        DUE.is("first(0, 0)", x.first(0, 0), 1);
        DUE.is("first(0, 1)", x.first(0, 1), 2);
        DUE.is("first(1, 0): all alike", x.first(1, 0), 0);
        DUE.is("first(1, 1): all alike", x.first(1, 1), 0);
        DUE.is("first(2, 0)", x.first(2, 0), 0);
        DUE.is("first(0, 2)", x.first(0, 2), BAD);
        DUE.is("first(0, -1)", x.first(0, -1), BAD);
        for (int f : NO_FORMULA) {
            DUE.is("first(no formula, 0)", x.first(f, 0), BAD);
        }
        SpreadDesk y = Due.told("Sa1 3;Sb1 3;Cab3;Fa-b;Fa*b*c*d*e*f;");
        DUE.is("takes(0, 0)", y.takes(0, 0), -3);
        DUE.is("first(0, 0): one that is not named", y.first(0, 0), 2);
        DUE.is("first(0, 1)", y.first(0, 1), 0);
        SpreadDesk z = Due.told("Sa1 1;Sb1 1;Sc1 1;Sd1 1;Se1 1;Sf1 1;Cab-9;Ccd-9;Cef-8;Fa+b+c+d+e+f;");
        DUE.is("first(0, 0): all below 0", z.first(0, 0), 4);
        DUE.is("first(0, 1): all below 0", z.first(0, 1), 4);
    }

    private static void off() {
        DUE.about("21 off");
        SpreadDesk x = Due.told("Sa3 0;Sb2 0;Fa^2*b;F@0+a;");
        DUE.is("off(0, 0, 5)", x.off(0, 0, 5), 128 - 18 - 5 * 12);
        DUE.is("off(0, 0, -20)", x.off(0, 0, -20), 578 - 18 + 20 * 12);
        DUE.is("off(1, 0, 20)", x.off(1, 0, 20), 1058 + 23 - 21 - 20 * 13);
        DUE.is("off(0, 1, 7)", x.off(0, 1, 7), 0);
        DUE.is("off(0, 0, 0)", x.off(0, 0, 0), 0);
        DUE.is("source(0, 0)", x.source(0, 0), 3);
        DUE.is("value(0)", x.value(0), 18);
        DUE.is("off(0, 0, 21)", x.off(0, 0, 21), NO);
        DUE.is("off(0, 0, -21)", x.off(0, 0, -21), NO);
        DUE.is("off(0, 0, min)", x.off(0, 0, Integer.MIN_VALUE), NO);
        for (int s : NO_SOURCE) {
            DUE.is("off(0, no source, 1)", x.off(0, s, 1), NO);
        }
        for (int f : NO_FORMULA) {
            DUE.is("off(no formula, 0, 1)", x.off(f, 0, 1), NO);
        }
        SpreadDesk y = Due.told("Sf99 0;Ff^4*f^4*f^4;");
        DUE.is("off(0, 5, 20)", y.off(0, 5, 20), 1430154161367354400L);
        DUE.is("off(0, 5, -20)", y.off(0, 5, -20), -6295904087936783840L);
    }

    private static void sees() {
        DUE.about("22 sees");
        SpreadDesk x = Due.told("Fa;Fb;");
        for (int n = 1; n <= 6; n++) {
            DUE.is("sees(0, 1)", x.sees(0, 1), n);
        }
        DUE.is("sees(0, 1), a seventh", x.sees(0, 1), FULL);
        DUE.is("sees(2, 1): bad ahead of full", x.sees(2, 1), BAD);
        DUE.is("seen", x.count(1), 6);
        DUE.is("unseen(1)", x.unseen(1), 1);
        x.forget();
        for (int f : NO_FORMULA) {
            DUE.is("sees(no formula, 0)", x.sees(f, 0), BAD);
        }
        DUE.is("seen", x.count(1), 0);
        DUE.is("sees(1, max)", x.sees(1, Long.MAX_VALUE), 1);
        DUE.is("sees(1, min)", x.sees(1, Long.MIN_VALUE), 2);
    }

    private static void forget() {
        DUE.about("23 forget");
        SpreadDesk x = Due.told("Fa;");
        DUE.is("forget()", x.forget(), 0);
        x.sees(0, 5);
        x.sees(0, 6);
        DUE.is("unseen(5)", x.unseen(5), 0);
        DUE.is("forget()", x.forget(), 2);
        DUE.is("seen", x.count(1), 0);
        DUE.is("unseen(5)", x.unseen(5), 63);
        x.sees(0, 5);
        DUE.is("unseen(5)", x.unseen(5), 1);
        DUE.is("forget()", x.forget(), 1);
        DUE.is("forget()", x.forget(), 0);
    }

    private static void unseen() {
        DUE.about("24 unseen");
        SpreadDesk x = Due.told("Sa2 0;Sb2 0;Sc1 0;Fa+b;Fa*b*c;F@0+@0;");
        DUE.is("unseen(0): nothing seen", x.unseen(0), 63);
        x.sees(0, 7);
        DUE.is("unseen(3)", x.unseen(3), 3);
        DUE.is("unseen(2)", x.unseen(2), 0);
        DUE.is("unseen(-3)", x.unseen(-3), 0);
        x.sees(2, 14);
        DUE.is("unseen(3) by @", x.unseen(3), 3);
        x.sees(1, 10);
        DUE.is("unseen(3)", x.unseen(3), 3);
        x.values(0, 3);
        DUE.is("unseen(3) with other values", x.unseen(3), 0);
        x.undo();
        x.values(2, 2);
        DUE.is("unseen(3) with other values", x.unseen(3), 0);
        x.forget();
        x.sees(0, 4);
        DUE.is("unseen(5): those that it does not name", x.unseen(5), 60);
        DUE.is("unseen(0): as all is now", x.unseen(0), 63);
        x.sees(1, 8);
        DUE.is("unseen(5)", x.unseen(5), 56);
        x.sees(1, 9);
        DUE.is("unseen(5)", x.unseen(5), 0);
        DUE.is("unseen(20)", x.unseen(20), 0);
        DUE.is("unseen(-20)", x.unseen(-20), 0);
        DUE.is("unseen(21)", x.unseen(21), BAD);
        DUE.is("unseen(-21)", x.unseen(-21), BAD);
        DUE.is("unseen(max)", x.unseen(Integer.MAX_VALUE), BAD);
        DUE.is("unseen(min)", x.unseen(Integer.MIN_VALUE), BAD);
        SpreadDesk y = Due.told("Sa99 0;Fa;");
        y.sees(0, 119);
        DUE.is("unseen(20): beyond a value's bound", y.unseen(20), 1);
    }

    private static void keep() {
        DUE.about("25 keep");
        SpreadDesk x = Due.told("Sa1 2;Cab3;Fa;Fb;");
        DUE.is("keep(0)", x.keep(0), 2);
        x.values(0, 9);
        DUE.is("keep(1)", x.keep(1), 2);
        DUE.is("undoable", x.count(3), 1);
        x.values(0, 10);
        DUE.is("keep(1) again", x.keep(1), 2);
        DUE.is("keep(2)", x.keep(2), BAD);
        DUE.is("keep(-1)", x.keep(-1), BAD);
        DUE.is("keep(min)", x.keep(Integer.MIN_VALUE), BAD);
        x.values(0, 11);
        x.back(1);
        DUE.is("source(0, 0) of image 1", x.source(0, 0), 10);
        x.back(0);
        DUE.is("source(0, 0) of image 0", x.source(0, 0), 1);
        DUE.is("keep(0) without formulas", new SpreadDesk().keep(0), 0);
    }

    private static void back() {
        DUE.about("26 back");
        SpreadDesk x = Due.told("Sa1 2;Cab3;Fa;Fb;Fa*b;");
        DUE.is("back(0)", x.back(0), STATE);
        DUE.is("back(1)", x.back(1), STATE);
        x.keep(0);
        DUE.is("back(1)", x.back(1), STATE);
        x.values(0, 9);
        x.spreads(0, 8);
        x.spreads(5, 8);
        x.joints(1, 0, 7);
        x.joints(4, 5, -7);
        x.sees(0, 9);
        Due.type(x, "Fa");
        DUE.is("back(0)", x.back(0), 3);
        DUE.is("source(0, 0)", x.source(0, 0), 1);
        DUE.is("source(0, 1)", x.source(0, 1), 2);
        DUE.is("source(5, 1)", x.source(5, 1), 0);
        DUE.is("joint(0, 1)", x.joint(0, 1), 3);
        DUE.is("joint(1, 0)", x.joint(1, 0), 3);
        DUE.is("joint(5, 4)", x.joint(5, 4), 0);
        DUE.is("seen", x.count(1), 1);
        DUE.is("letters", x.count(2), 2);
        DUE.is("undoable", x.count(3), 0);
        DUE.is("undo()", x.undo(), STATE);
        DUE.is("back(0) again", x.back(0), 3);
        x.values(0, 50);
        DUE.is("undo() of what came after", x.undo(), 0);
        DUE.is("source(0, 0)", x.source(0, 0), 1);
        DUE.is("back(2)", x.back(2), BAD);
        DUE.is("back(-1)", x.back(-1), BAD);
        DUE.is("back(max)", x.back(Integer.MAX_VALUE), BAD);
        SpreadDesk y = new SpreadDesk();
        y.keep(1);
        y.values(0, 5);
        DUE.is("back(1) without formulas", y.back(1), 0);
        DUE.is("source(0, 0)", y.source(0, 0), 0);
        DUE.is("back(0)", y.back(0), STATE);
    }

    private static void formula() {
        DUE.about("27 formula");
        SpreadDesk x = Due.told("F7;F-(a+f^0)*2;F@1-@0*@1;F@2^2+c+@2;");
        int[][] due = {{1, 1, 0}, {7, 7, 33}, {5, 20, 33}, {6, 46, 37}};
        for (int f = 0; f < 4; f++) {
            for (int what = 0; what < 3; what++) {
                DUE.is("formula(" + f + ", " + what + ")", x.formula(f, what), due[f][what]);
            }
        }
        DUE.is("formula(0, 3)", x.formula(0, 3), BAD);
        DUE.is("formula(0, -1)", x.formula(0, -1), BAD);
        for (int f : NO_FORMULA) {
            DUE.is("formula(no formula, 0)", x.formula(f, 0), BAD);
        }
        SpreadDesk y = Due.told("F----------c*c*c*c*c;F-@0*@0*@0*@0;F-@1*@1*@1*@1;F@2+@2+@2+@2;");
        int[] steps = {19, 8 + 4 * 19, 8 + 4 * 84, 7 + 4 * 344};
        for (int f = 0; f < 4; f++) {
            DUE.is("formula(" + f + ", 1)", y.formula(f, 1), steps[f]);
            DUE.is("formula(" + f + ", 2)", y.formula(f, 2), 4);
        }
    }

    private static void count() {
        DUE.about("28 count");
        SpreadDesk x = Due.told("Fa;Fb;Fc;");
        x.sees(0, 1);
        x.sees(0, 2);
        Due.type(x, "four");
        x.values(0, 7);
        DUE.is("count(0)", x.count(0), 3);
        DUE.is("count(1)", x.count(1), 2);
        DUE.is("count(2)", x.count(2), 4);
        DUE.is("count(3)", x.count(3), 1);
        DUE.is("count(4)", x.count(4), BAD);
        DUE.is("count(-1)", x.count(-1), BAD);
        DUE.is("count(max)", x.count(Integer.MAX_VALUE), BAD);
        DUE.is("count(min)", x.count(Integer.MIN_VALUE), BAD);
    }

    private static long cutPower(long base, int exponent) {
        return java.math.BigInteger.valueOf(base).pow(exponent).longValue();
    }
}
