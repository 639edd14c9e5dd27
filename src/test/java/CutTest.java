import java.math.BigInteger;

/**
 * "All numbers of 2, 3 are whole ones of 64 bits, as Java's long (cut to these, where they go
 * beyond)": each of these numbers at its bounds, one beyond, and far beyond.
 */
public final class CutTest {
    private static final Due DUE = new Due();
    private static final long MIN = Long.MIN_VALUE;
    private static final long MAX = Long.MAX_VALUE;
    private static final long TO_62 = 1L << 62;

    /** Texts of powers of two: 8 is 2 ^ 3. */
    private static final String IS_TO_31 = "8^4*8^4*8^2*2";
    private static final String IS_TO_62 = "(8^4*8^4*8^2*2)^2";
    private static final String IS_TO_63 = "(8^3)^4*(8^3)^3";

    public static void main(String[] args) {
        valueAtItsBounds();
        valueFarBeyond();
        slopeAtItsBounds();
        bendAtItsBounds();
        slopeAndBendFarBeyond();
        wholeAtItsBounds();
        togetherAtItsBounds();
        shareAtItsBounds();
        leftAtItsBounds();
        fewestOfWhatIsCut();
        takesAtItsBounds();
        firstOfWhatIsCut();
        offAtItsBounds();
        seenAtItsBounds();
        noNumberIsTakenForARefusal();
        DUE.end();
    }

    private static void valueAtItsBounds() {
        DUE.about("VALUE at its bounds");
        SpreadDesk x = Due.told("F" + IS_TO_63 + ";F@0-1;F-@0;F@1+1;");
        DUE.is("2^63", x.value(0), MIN);
        DUE.is("2^63 - 1", x.value(1), MAX);
        DUE.is("-(2^63)", x.value(2), MIN);
        DUE.is("max + 1", x.value(3), MIN);
        SpreadDesk y = Due.told("F" + IS_TO_62 + ";F@0+@0;F@0*2-1;F@0*4;");
        DUE.is("2^62", y.value(0), TO_62);
        DUE.is("2^62 + 2^62", y.value(1), MIN);
        DUE.is("2^62 * 2 - 1", y.value(2), MAX);
        DUE.is("2^62 * 4", y.value(3), 0);
        SpreadDesk z = Due.told("F(8*2)^4;F@0^4;F@1-1;F-(@0*@0*@0*8^4*8);");
        DUE.is("2^64", z.value(1), 0);
        DUE.is("2^64 - 1", z.value(2), -1);
        DUE.is("-(2^48 * 2^15)", z.value(3), MIN);
    }

    private static void valueFarBeyond() {
        DUE.about("VALUE far beyond");
        SpreadDesk x = Due.told("Sa99 0;Sb-99 0;Fa^4*a^4*a^4;F@0^4;F@1^4*b^3;F-@2^3-@1*@0;");
        BigInteger a = BigInteger.valueOf(99);
        DUE.is("99^12", x.value(0), a.pow(12).longValue());
        DUE.is("99^48", x.value(1), a.pow(48).longValue());
        DUE.is("99^192 * (-99)^3", x.value(2), a.pow(195).negate().longValue());
        DUE.is("all of them", x.value(3), a.pow(585).subtract(a.pow(60)).longValue());
    }

    private static void slopeAtItsBounds() {
        DUE.about("SLOPE at its bounds");
        SpreadDesk x = Due.told("Fa*" + IS_TO_63 + ";F@0-a;Fa^2*" + IS_TO_62 + ";F@2+@2;");
        DUE.is("2^63", x.slope(0, 0), MIN);
        DUE.is("2^63 - 1", x.slope(1, 0), MAX);
        DUE.is("2^63 a at 0", x.slope(2, 0), 0);
        x.values(0, 1);
        DUE.is("2^63 a at 1", x.slope(2, 0), MIN);
        DUE.is("2^64 a at 1", x.slope(3, 0), 0);
        x.values(0, 2);
        DUE.is("2^63 a at 2", x.slope(2, 0), 0);
        x.values(0, -99);
        DUE.is("2^63 a at -99", x.slope(2, 0), MIN);
    }

    private static void bendAtItsBounds() {
        DUE.about("BEND at its bounds");
        SpreadDesk x = Due.told("Fa*b*" + IS_TO_63 + ";F@0-a*b;Fa^2*" + IS_TO_62 + ";F@2-a^2;");
        DUE.is("2^63", x.bend(0, 0, 1), MIN);
        DUE.is("2^63, the other way", x.bend(0, 1, 0), MIN);
        DUE.is("2^63 - 1", x.bend(1, 0, 1), MAX);
        DUE.is("2 * 2^62", x.bend(2, 0, 0), MIN);
        DUE.is("2 * 2^62 - 2", x.bend(3, 0, 0), MAX - 1);
    }

    private static void slopeAndBendFarBeyond() {
        DUE.about("SLOPE, BEND far beyond");
        SpreadDesk x = Due.told("Sa-99 0;Sb97 0;Fa^4*a^4*a^4;F@0^4;F@1*b^4;");
        BigInteger a = BigInteger.valueOf(-99);
        BigInteger b = BigInteger.valueOf(97);
        DUE.is("12 a^11", x.slope(0, 0), times(12, a.pow(11)));
        DUE.is("132 a^10", x.bend(0, 0, 0), times(132, a.pow(10)));
        DUE.is("48 a^47", x.slope(1, 0), times(48, a.pow(47)));
        DUE.is("48 * 47 a^46", x.bend(1, 0, 0), times(48 * 47, a.pow(46)));
        DUE.is("48 a^47 b^4", x.slope(2, 0), times(48, a.pow(47).multiply(b.pow(4))));
        DUE.is("a^48 4 b^3", x.slope(2, 1), times(4, a.pow(48).multiply(b.pow(3))));
        DUE.is("48 a^47 4 b^3", x.bend(2, 0, 1), times(192, a.pow(47).multiply(b.pow(3))));
        DUE.is("a^48 12 b^2", x.bend(2, 1, 1), times(12, a.pow(48).multiply(b.pow(2))));
    }

    private static long times(long factor, BigInteger number) {
        return number.multiply(BigInteger.valueOf(factor)).longValue();
    }

    private static void wholeAtItsBounds() {
        DUE.about("WHOLE at its bounds");
        SpreadDesk x = Due.told("Fa*" + IS_TO_31 + ";F@0-b;");
        long[] due = {0, TO_62, MIN, 3 * TO_62, 0, TO_62};
        for (int spread = 0; spread <= 5; spread++) {
            x.spreads(0, spread);
            DUE.is("2^62 * " + spread, x.whole(0), due[spread]);
        }
        x.spreads(0, 2);
        x.spreads(1, 1);
        DUE.is("2^63 + 1", x.whole(1), MIN + 1);
        x.spreads(1, 0);
        x.joints(0, 1, 1);
        DUE.is("2^63 - 2^32", x.whole(1), MAX - (1L << 32) + 1);
        SpreadDesk y = Due.told("Sf99 99;Ff^4*f^4*f^4;");
        BigInteger slope = BigInteger.valueOf(99).pow(11).multiply(BigInteger.valueOf(12));
        DUE.is("144 * 99^23", y.whole(0), times(99, slope.pow(2)));
    }

    private static void togetherAtItsBounds() {
        DUE.about("TOGETHER at its bounds");
        SpreadDesk x = Due.told("Sa0 1;Sb0 1;Fa*" + IS_TO_31 + ";F@0*2;F@1-b;Fa+b;");
        DUE.is("2^31 * 2^32", x.together(0, 1), MIN);
        DUE.is("2^32 * 2^31", x.together(1, 0), MIN);
        DUE.is("2^32 * 2^32", x.together(1, 1), 0);
        DUE.is("2^31 * 2^32, b aside", x.together(0, 2), MIN);
        x.joints(0, 1, 1);
        DUE.is("2^63 - 2^31", x.together(0, 2), MAX - (1L << 31) + 1);
        x.spreads(0, 3);
        DUE.is("3 * 2^63 - 2^31", x.together(2, 0), MAX - (1L << 31) + 1);
        DUE.is("in reach", x.together(0, 3), (1L << 31) * 4);
    }

    /** In turn 2^63 and 2^62: a spreads by 2, b by 1. */
    private static final String TWO = "Sa0 2;Sb0 1;F(a+b)*" + IS_TO_31 + ";";

    private static void shareAtItsBounds() {
        DUE.about("SHARE at its bounds");
        SpreadDesk x = Due.told(TWO);
        DUE.is("2^63", x.share(0, 0), MIN);
        DUE.is("2^62", x.share(0, 1), TO_62);
        x.joints(0, 1, -1);
        DUE.is("2^63 - 2^62", x.share(0, 0), TO_62);
        x.joints(0, 1, 3);
        DUE.is("2^62 * (2 + 3)", x.share(0, 0), TO_62);
        DUE.is("2^62 * (1 + 3)", x.share(0, 1), 0);
    }

    private static void leftAtItsBounds() {
        DUE.about("LEFT at its bounds");
        SpreadDesk x = Due.told(TWO);
        DUE.is("2^62 * 3", x.left(0, 0), 3 * TO_62);
        DUE.is("2^62", x.left(0, 1), TO_62);
        DUE.is("2^63", x.left(0, 2), MIN);
        DUE.is("none", x.left(0, 3), 0);
        x.joints(0, 1, 1);
        DUE.is("2^62 * 5", x.left(0, 0), TO_62);
        DUE.is("2^63", x.left(0, 62), MIN);
    }

    private static void fewestOfWhatIsCut() {
        DUE.about("FEWEST of what is cut");
        SpreadDesk x = Due.told(TWO);
        DUE.is("2^62 * 3 is below 0", x.fewest(0, 0), 0);
        DUE.is("at its bound", x.fewest(0, 3 * TO_62), 0);
        DUE.is("one less: 2^63 is less", x.fewest(0, 3 * TO_62 - 1), 2);
        DUE.is("min", x.fewest(0, MIN), 2);
        DUE.is("max", x.fewest(0, MAX), 0);
        x.spreads(0, 1);
        DUE.is("min, as 2 * 2^62", x.fewest(0, MIN), 0);
        x.spreads(0, 0);
        DUE.is("none is 0 or less but b", x.fewest(0, 0), 2);
        DUE.is("none", x.fewest(0, -1), SpreadDesk.NONE);
        DUE.is("none", x.fewest(0, MIN), SpreadDesk.NONE);
    }

    private static void takesAtItsBounds() {
        DUE.about("TAKES at its bounds");
        SpreadDesk x = Due.told(TWO);
        DUE.is("2^62 * 3 less 2^62", x.takes(0, 0), MIN);
        DUE.is("2^62 * 3 less 2^63", x.takes(0, 1), TO_62);
        x.spreads(1, 2);
        DUE.is("2^64 less 2^63", x.takes(0, 0), MIN);
        x.spreads(0, 4);
        DUE.is("2^62 * 6 less 2^63", x.takes(0, 0), 0);
        x.joints(0, 1, -1);
        DUE.is("2^62 * 4 less 2^63", x.takes(0, 0), MIN);
    }

    private static void firstOfWhatIsCut() {
        DUE.about("first of what is cut");
        SpreadDesk x = Due.told(TWO);
        DUE.is("2^63 is below 0: TAKES", x.first(0, 0), 1);
        DUE.is("2^63 is below 0: SHARE", x.first(0, 1), 1);
        x.spreads(1, 2);
        DUE.is("two below 0: TAKES", x.first(0, 0), 2);
        DUE.is("two below 0: SHARE", x.first(0, 1), 2);
        x.spreads(0, 4);
        DUE.is("2^64 is 0: TAKES", x.first(0, 0), 0);
        DUE.is("2^64 is 0: SHARE", x.first(0, 1), 0);
        SpreadDesk y = Due.told("F" + IS_TO_31 + ";Fa*@0+b*8;F(a+b+c+d+e+f)*@0;");
        for (int s = 0; s < 6; s++) {
            y.spreads(s, 2);
        }
        DUE.is("all at min: TAKES", y.first(2, 0), 0);
        DUE.is("all at min: SHARE", y.first(2, 1), 0);
        DUE.is("64 * 2 is greater than 2^63", y.first(1, 0), 1);
    }

    private static void offAtItsBounds() {
        DUE.about("OFF at its bounds");
        SpreadDesk x = Due.told("Fa^2*" + IS_TO_62 + ";F@0*2;F@0+a^3;Fa*" + IS_TO_63 + ";");
        for (int v : new int[] {0, 1, -99, 99}) {
            x.values(0, v);
            for (int d : new int[] {-20, -3, -2, -1, 0, 1, 2, 3, 20}) {
                DUE.is("2^62 d^2", x.off(0, 0, d), TO_62 * (d * d));
                DUE.is("2^63 d^2", x.off(1, 0, d), MIN * (d * d));
                DUE.is("2^62 d^2 and more", x.off(2, 0, d), TO_62 * (d * d) + 3L * v * d * d + d * d * d);
                DUE.is("nothing, by what is cut", x.off(3, 0, d), 0);
            }
        }
        SpreadDesk y = Due.told("Sf99 0;Ff^4*f^4*f^4;");
        for (int d : new int[] {-20, -19, -1, 1, 19, 20}) {
            BigInteger f = BigInteger.valueOf(99);
            BigInteger moved = BigInteger.valueOf(99 + d).pow(12);
            BigInteger slope = f.pow(11).multiply(BigInteger.valueOf(12L * d));
            DUE.is("99^12 moved by " + d, y.off(0, 5, d), moved.subtract(f.pow(12)).subtract(slope).longValue());
        }
    }

    private static void seenAtItsBounds() {
        DUE.about("SEEN, UNSEEN at their bounds");
        SpreadDesk x = Due.told("F" + IS_TO_63 + "+a;Fb*" + IS_TO_63 + ";");
        x.sees(0, MIN + 20);
        DUE.is("2^63 + 20", x.unseen(20), 1);
        DUE.is("2^63 + 20 by 19", x.unseen(19), 0);
        x.forget();
        x.sees(0, MAX);
        DUE.is("2^63 - 1", x.unseen(-1), 1);
        DUE.is("2^63 - 1 by 1", x.unseen(1), 0);
        x.forget();
        x.sees(0, MIN);
        DUE.is("2^63", x.unseen(0), 63);
        x.forget();
        x.sees(1, MIN);
        DUE.is("2^63 by 1", x.unseen(1), 2);
        DUE.is("2^63 by -19", x.unseen(-19), 2);
        DUE.is("2^63 by 2", x.unseen(2), 0);
        x.sees(1, MAX);
        DUE.is("2^63 - 1 is another", x.unseen(1), 0);
        x.forget();
        x.sees(1, 0);
        DUE.is("2^64 by 2", x.unseen(2), 63);
    }

    /** -9 * 10^18 is NO, yet a number like others where it is one. */
    private static void noNumberIsTakenForARefusal() {
        DUE.about("NO, -1, -9 as numbers");
        SpreadDesk x = Due.told("F10^4*10^4;F-9*@0*@0*10^2;Fa*@1;F0-1;");
        DUE.is("value(1)", x.value(1), SpreadDesk.NO);
        DUE.is("slope(2, 0)", x.slope(2, 0), SpreadDesk.NO);
        DUE.is("value(3)", x.value(3), -1);
        DUE.is("sees(1, NO)", x.sees(1, SpreadDesk.NO), 1);
        DUE.is("unseen(5)", x.unseen(5), 63);
        DUE.is("fewest(1, NO)", x.fewest(1, SpreadDesk.NO), SpreadDesk.NONE);
    }
}
