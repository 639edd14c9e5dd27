import java.util.ArrayDeque;
import java.util.ArrayList;
import java.util.Deque;
import java.util.List;
import java.util.function.IntBinaryOperator;

/**
 * The document told a second time, by other means: tokens are judged by a machine of states,
 * formulas are split at their loosest operator, slopes and bends are read off the series of a
 * formula around the values, steps are counted by going through the nodes.
 */
final class Model {
    private static final long NO = -9000000000000000000L;

    private StringBuilder text = new StringBuilder();
    private long[] value = new long[6];
    private long[][] joint = new long[6][6];
    private List<List<String>> formulas = new ArrayList<>();
    private final Deque<Runnable> undoes = new ArrayDeque<>();
    private final List<long[]> seen = new ArrayList<>();
    private final Runnable[] images = new Runnable[2];
    private long gone;

    // ---- the text

    long type(int letter) {
        if (letter < 0 || letter > 255) {
            return -1;
        }
        if (text.length() == 100) {
            return -3;
        }
        text.append((char) letter);
        return text.length();
    }

    long clear() {
        int had = text.length();
        text = new StringBuilder();
        return had;
    }

    private record Token(String text, int place) {
        boolean isNumber() {
            return Character.isDigit(text.charAt(0));
        }

        boolean isSource() {
            return text.length() == 1 && "abcdef".contains(text);
        }
    }

    private static List<Token> tokens(String text) {
        List<Token> tokens = new ArrayList<>();
        int at = 0;
        while (at < text.length()) {
            int from = at;
            boolean digit = text.charAt(at) >= '0' && text.charAt(at) <= '9';
            at++;
            while (digit && at < text.length() && text.charAt(at) >= '0' && text.charAt(at) <= '9') {
                at++;
            }
            if (text.charAt(from) != ' ') {
                tokens.add(new Token(text.substring(from, at), from));
            }
        }
        return tokens;
    }

    private static boolean isOne(Token token) {
        if (token.isNumber()) {
            return token.text.length() <= 2 && !(token.text.length() == 2 && token.text.startsWith("0"));
        }
        return "SCFabcdef+-*^()@;".contains(token.text);
    }

    long desk() {
        List<Token> tokens = tokens(text.toString());
        int items = 0;
        int open = 0;
        int nodes = 0;
        String state = "item";
        String first = "";
        boolean powered = false;
        int told = 0;
        for (Token token : tokens) {
            String t = token.text;
            boolean good = isOne(token);
            if (good) {
                switch (state) {
                    case "item" -> {
                        good = t.equals("S") || t.equals("C") || t.equals("F") && told < 4;
                        state = t.equals("S") ? "S source" : t.equals("C") ? "C source" : "part";
                        if (t.equals("F")) {
                            told++;
                            open = 0;
                            nodes = 0;
                        }
                    }
                    case "S source" -> {
                        good = token.isSource();
                        state = "value or -";
                    }
                    case "value or -" -> {
                        good = t.equals("-") || token.isNumber();
                        state = t.equals("-") ? "value" : "spread";
                    }
                    case "value" -> {
                        good = token.isNumber();
                        state = "spread";
                    }
                    case "spread" -> {
                        good = token.isNumber();
                        state = "end";
                    }
                    case "C source" -> {
                        good = token.isSource();
                        first = t;
                        state = "C other";
                    }
                    case "C other" -> {
                        good = token.isSource() && !t.equals(first);
                        state = "joint or -";
                    }
                    case "joint or -" -> {
                        good = t.equals("-") || token.isNumber();
                        state = t.equals("-") ? "joint" : "end";
                    }
                    case "joint" -> {
                        good = token.isNumber();
                        state = "end";
                    }
                    case "end" -> {
                        good = t.equals(";");
                        state = "item";
                        items++;
                    }
                    case "part" -> {
                        powered = false;
                        if (t.equals("(")) {
                            open++;
                            good = open <= 8;
                        } else {
                            nodes++;
                            good = nodes <= 20 && (t.equals("-") || t.equals("@") || token.isSource() || token.isNumber());
                            state = t.equals("-") ? "part" : t.equals("@") ? "@" : "behind";
                        }
                    }
                    case "@" -> {
                        good = token.isNumber() && Integer.parseInt(t) < told - 1;
                        state = "behind";
                    }
                    case "^" -> {
                        good = token.isNumber() && Integer.parseInt(t) <= 4;
                        powered = true;
                        state = "behind";
                    }
                    default -> {
                        switch (t) {
                            case "+", "-", "*" -> {
                                nodes++;
                                good = nodes <= 20;
                                state = "part";
                            }
                            case "^" -> {
                                nodes++;
                                good = nodes <= 20 && !powered;
                                state = "^";
                            }
                            case ")" -> {
                                good = open > 0;
                                open--;
                                powered = false;
                            }
                            case ";" -> {
                                good = open == 0;
                                state = "item";
                                items++;
                            }
                            default -> good = false;
                        }
                    }
                }
            }
            if (!good) {
                return -10 - token.place;
            }
        }
        if (!state.equals("item")) {
            return -10 - text.length();
        }
        tellAnew(tokens);
        text = new StringBuilder();
        return items;
    }

    private void tellAnew(List<Token> tokens) {
        value = new long[6];
        joint = new long[6][6];
        formulas = new ArrayList<>();
        undoes.clear();
        seen.clear();
        images[0] = null;
        images[1] = null;
        List<String> item = new ArrayList<>();
        for (Token token : tokens) {
            if (!token.text.equals(";")) {
                item.add(token.text);
                continue;
            }
            String joined = String.join(" ", item).replace("- ", "-");
            String[] words = joined.split(" ");
            if (words[0].equals("S")) {
                int s = words[1].charAt(0) - 'a';
                value[s] = Long.parseLong(words[2]);
                joint[s][s] = Long.parseLong(words[3]);
            } else if (words[0].equals("C")) {
                int s = words[1].charAt(0) - 'a';
                int t = words[2].charAt(0) - 'a';
                joint[s][t] = Long.parseLong(words[3]);
                joint[t][s] = joint[s][t];
            } else {
                formulas.add(new ArrayList<>(item.subList(1, item.size())));
            }
            item.clear();
        }
    }

    // ---- formulas

    /** Up to the second order: [0] the value, [1 + s] by s, [7 + 6 s + t] by s and t. */
    private static long[] times(long[] p, long[] q) {
        long[] r = new long[43];
        r[0] = p[0] * q[0];
        for (int s = 0; s < 6; s++) {
            r[1 + s] = p[0] * q[1 + s] + p[1 + s] * q[0];
            for (int t = 0; t < 6; t++) {
                int st = 7 + 6 * s + t;
                r[st] = p[0] * q[st] + p[st] * q[0] + p[1 + s] * q[1 + t];
            }
        }
        return r;
    }

    private static long[] plus(long[] p, long[] q, long factor) {
        long[] r = new long[43];
        for (int i = 0; i < 43; i++) {
            r[i] = p[i] + factor * q[i];
        }
        return r;
    }

    /** The series in small moves of all sources, around the values with source s being d more. */
    private long[] series(List<String> sum, int s, long d) {
        gone++;
        long[] r = new long[43];
        int split = loosest(sum, "+-");
        if (split < 0) {
            split = loosest(sum, "*");
        }
        if (split >= 0) {
            long[] p = series(sum.subList(0, split), s, d);
            long[] q = series(sum.subList(split + 1, sum.size()), s, d);
            String sign = sum.get(split);
            return sign.equals("*") ? times(p, q) : plus(p, q, sign.equals("+") ? 1 : -1);
        }
        int size = sum.size();
        if (size >= 2 && sum.get(size - 2).equals("^")) {
            long[] p = series(sum.subList(0, size - 2), s, d);
            r[0] = 1;
            for (int i = Integer.parseInt(sum.get(size - 1)); i > 0; i--) {
                r = times(r, p);
            }
            return r;
        }
        String head = sum.get(0);
        if (head.equals("-")) {
            return plus(r, series(sum.subList(1, size), s, d), -1);
        }
        if (head.equals("(")) {
            gone--;
            return series(sum.subList(1, size - 1), s, d);
        }
        if (head.equals("@")) {
            return series(formulas.get(Integer.parseInt(sum.get(1))), s, d);
        }
        if (Character.isDigit(head.charAt(0))) {
            r[0] = Long.parseLong(head);
            return r;
        }
        int source = head.charAt(0) - 'a';
        r[0] = value[source] + (source == s ? d : 0);
        r[1 + source] = 1;
        return r;
    }

    /** The last of these signs between two parts, in no bracket; -1 if there is none. */
    private static int loosest(List<String> sum, String signs) {
        int open = 0;
        int last = -1;
        for (int i = 0; i < sum.size(); i++) {
            String t = sum.get(i);
            open += t.equals("(") ? 1 : t.equals(")") ? -1 : 0;
            boolean between = i > 0 && !"+-*(".contains(sum.get(i - 1));
            if (open == 0 && between && signs.contains(t)) {
                last = i;
            }
        }
        return last;
    }

    private boolean noFormula(int f) {
        return f < 0 || f >= formulas.size();
    }

    private static boolean noSource(int s) {
        return s < 0 || s > 5;
    }

    private long[] at(int f) {
        return series(formulas.get(f), 0, 0);
    }

    long value(int f) {
        return noFormula(f) ? NO : at(f)[0];
    }

    long slope(int f, int s) {
        return noFormula(f) || noSource(s) ? NO : at(f)[1 + s];
    }

    /** Off the diagonal the series holds both orders of s and t in one; on it, half the bend. */
    long bend(int f, int s, int t) {
        if (noFormula(f) || noSource(s) || noSource(t)) {
            return NO;
        }
        long[] p = at(f);
        return p[7 + 6 * s + t] + p[7 + 6 * t + s];
    }

    private long over(int f, int g, IntBinaryOperator counts) {
        long[] p = at(f);
        long[] q = at(g);
        long sum = 0;
        for (int i = 0; i < 36; i++) {
            if (counts.applyAsInt(i / 6, i % 6) != 0) {
                sum += p[1 + i / 6] * q[1 + i % 6] * joint[i / 6][i % 6];
            }
        }
        return sum;
    }

    long whole(int f) {
        return noFormula(f) ? NO : over(f, f, (i, j) -> 1);
    }

    long together(int f, int g) {
        return noFormula(f) || noFormula(g) ? NO : over(f, g, (i, j) -> 1);
    }

    long share(int f, int s) {
        return noFormula(f) || noSource(s) ? NO : over(f, f, (i, j) -> i == s ? 1 : 0);
    }

    long left(int f, int set) {
        if (noFormula(f) || set < 0 || set > 63) {
            return NO;
        }
        return over(f, f, (i, j) -> (1 << i & set) == 0 && (1 << j & set) == 0 ? 1 : 0);
    }

    long fewest(int f, long limit) {
        if (noFormula(f)) {
            return -1;
        }
        for (int many = 0; many <= 6; many++) {
            for (int set = 0; set < 64; set++) {
                if (Integer.bitCount(set) == many && left(f, set) <= limit) {
                    return set;
                }
            }
        }
        return -9;
    }

    long takes(int f, int s) {
        return noFormula(f) || noSource(s) ? NO : over(f, f, (i, j) -> i == s || j == s ? 1 : 0);
    }

    long first(int f, int what) {
        if (noFormula(f) || what < 0 || what > 1) {
            return -1;
        }
        int best = 5;
        for (int s = 4; s >= 0; s--) {
            long its = what == 0 ? takes(f, s) : share(f, s);
            if (its >= (what == 0 ? takes(f, best) : share(f, best))) {
                best = s;
            }
        }
        return best;
    }

    long off(int f, int s, int d) {
        if (noFormula(f) || noSource(s) || d < -20 || d > 20) {
            return NO;
        }
        return series(formulas.get(f), s, d)[0] - value(f) - d * slope(f, s);
    }

    // ---- what is set, seen, kept

    long source(int s, int what) {
        return noSource(s) || what < 0 || what > 1 ? NO : what == 0 ? value[s] : joint[s][s];
    }

    long joint(int s, int t) {
        return noSource(s) || noSource(t) ? NO : joint[s][t];
    }

    private void set(int s, int t, long v) {
        long was = joint[s][t];
        joint[s][t] = v;
        joint[t][s] = v;
        known(() -> {
            joint[s][t] = was;
            joint[t][s] = was;
        });
    }

    private void known(Runnable undo) {
        undoes.addLast(undo);
        if (undoes.size() > 10) {
            undoes.removeFirst();
        }
    }

    long values(int s, int v) {
        if (noSource(s) || v < -99 || v > 99) {
            return -1;
        }
        long was = value[s];
        if (was == v) {
            return -2;
        }
        value[s] = v;
        known(() -> value[s] = was);
        return 1;
    }

    long spreads(int s, int v) {
        if (noSource(s) || v < 0 || v > 99) {
            return -1;
        }
        long was = joint[s][s];
        set(s, s, v);
        return was;
    }

    long joints(int s, int t, int v) {
        if (noSource(s) || noSource(t) || s == t || v < -99 || v > 99) {
            return -1;
        }
        if (joint[s][t] == v) {
            return -2;
        }
        set(s, t, v);
        return 1;
    }

    long undo() {
        if (undoes.isEmpty()) {
            return -2;
        }
        undoes.removeLast().run();
        return undoes.size();
    }

    long sees(int f, long v) {
        if (noFormula(f)) {
            return -1;
        }
        if (seen.size() == 6) {
            return -3;
        }
        seen.add(new long[] {f, v});
        return seen.size();
    }

    long forget() {
        int had = seen.size();
        seen.clear();
        return had;
    }

    long unseen(int d) {
        if (d < -20 || d > 20) {
            return -1;
        }
        long set = 63;
        for (long[] one : seen) {
            for (int s = 0; s < 6; s++) {
                if (series(formulas.get((int) one[0]), s, d)[0] != one[1]) {
                    set &= ~(1L << s);
                }
            }
        }
        return set;
    }

    long keep(int image) {
        if (image < 0 || image > 1) {
            return -1;
        }
        long[] itsValue = value.clone();
        long[][] itsJoint = new long[6][];
        for (int s = 0; s < 6; s++) {
            itsJoint[s] = joint[s].clone();
        }
        images[image] = () -> {
            value = itsValue.clone();
            for (int s = 0; s < 6; s++) {
                joint[s] = itsJoint[s].clone();
            }
        };
        return formulas.size();
    }

    long back(int image) {
        if (image < 0 || image > 1) {
            return -1;
        }
        if (images[image] == null) {
            return -2;
        }
        images[image].run();
        undoes.clear();
        return formulas.size();
    }

    long formula(int f, int what) {
        if (noFormula(f) || what < 0 || what > 2) {
            return -1;
        }
        if (what == 0) {
            return nodes(formulas.get(f));
        }
        if (what == 1) {
            gone = 0;
            at(f);
            return gone;
        }
        return names(formulas.get(f));
    }

    private static long nodes(List<String> formula) {
        long nodes = 0;
        for (int i = 0; i < formula.size(); i++) {
            boolean behind = i > 0 && "^@".contains(formula.get(i - 1));
            if (!behind && !"()".contains(formula.get(i))) {
                nodes++;
            }
        }
        return nodes;
    }

    private long names(List<String> formula) {
        long set = 0;
        for (int i = 0; i < formula.size(); i++) {
            String t = formula.get(i);
            if (t.equals("@")) {
                set |= names(formulas.get(Integer.parseInt(formula.get(i + 1))));
            } else if ("abcdef".contains(t)) {
                set |= 1L << t.charAt(0) - 'a';
            }
        }
        return set;
    }

    long count(int what) {
        switch (what) {
            case 0:
                return formulas.size();
            case 1:
                return seen.size();
            case 2:
                return text.length();
            case 3:
                return undoes.size();
            default:
                return -1;
        }
    }
}
