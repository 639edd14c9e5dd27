/** Calls of the face as data, so that a bound that many calls share can be tested on each of them. */
final class Calls {
    private static final int BAD = -1;
    private static final long NO = -9000000000000000000L;

    interface Asks {
        long of(SpreadDesk x, int n);
    }

    /** One number of one call; what it answers if just that number is bad. */
    record One(String name, Asks asks, long refusal) { }

    /** The number is a source. */
    static final One[] BY_SOURCE = {
        new One("source(n, 0)", (x, n) -> x.source(n, 0), NO),
        new One("source(n, 1)", (x, n) -> x.source(n, 1), NO),
        new One("joint(n, 0)", (x, n) -> x.joint(n, 0), NO),
        new One("joint(5, n)", (x, n) -> x.joint(5, n), NO),
        new One("values(n, 50)", (x, n) -> x.values(n, 50), BAD),
        new One("spreads(n, 50)", (x, n) -> x.spreads(n, 50), BAD),
        new One("joints(n, n ^ 1, 50)", (x, n) -> x.joints(n, n == 0 ? 1 : 0, 50), BAD),
        new One("joints(n ^ 1, n, 50)", (x, n) -> x.joints(n == 0 ? 1 : 0, n, 50), BAD),
        new One("slope(0, n)", (x, n) -> x.slope(0, n), NO),
        new One("bend(0, n, 0)", (x, n) -> x.bend(0, n, 0), NO),
        new One("bend(0, 0, n)", (x, n) -> x.bend(0, 0, n), NO),
        new One("share(0, n)", (x, n) -> x.share(0, n), NO),
        new One("takes(0, n)", (x, n) -> x.takes(0, n), NO),
        new One("off(0, n, 1)", (x, n) -> x.off(0, n, 1), NO),
    };

    /** The number is a formula. */
    static final One[] BY_FORMULA = {
        new One("value(n)", (x, n) -> x.value(n), NO),
        new One("slope(n, 0)", (x, n) -> x.slope(n, 0), NO),
        new One("bend(n, 0, 0)", (x, n) -> x.bend(n, 0, 0), NO),
        new One("whole(n)", (x, n) -> x.whole(n), NO),
        new One("together(n, 0)", (x, n) -> x.together(n, 0), NO),
        new One("together(0, n)", (x, n) -> x.together(0, n), NO),
        new One("share(n, 0)", (x, n) -> x.share(n, 0), NO),
        new One("left(n, 0)", (x, n) -> x.left(n, 0), NO),
        new One("fewest(n, max)", (x, n) -> x.fewest(n, Long.MAX_VALUE), BAD),
        new One("takes(n, 0)", (x, n) -> x.takes(n, 0), NO),
        new One("first(n, 0)", (x, n) -> x.first(n, 0), BAD),
        new One("first(n, 1)", (x, n) -> x.first(n, 1), BAD),
        new One("off(n, 0, 1)", (x, n) -> x.off(n, 0, 1), NO),
        new One("sees(n, 1)", (x, n) -> x.sees(n, 1), BAD),
        new One("formula(n, 0)", (x, n) -> x.formula(n, 0), BAD),
        new One("formula(n, 1)", (x, n) -> x.formula(n, 1), BAD),
        new One("formula(n, 2)", (x, n) -> x.formula(n, 2), BAD),
    };

    private Calls() {
    }
}
