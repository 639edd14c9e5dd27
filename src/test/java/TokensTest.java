import java.util.List;

/**
 * Which TOKENS can stand where: each place that a text has, with each TOKEN behind it, and with what
 * is none. The places stand here as a list, so that nothing of the class's own reading is used.
 */
public final class TokensTest {
    private static final Due DUE = new Due();

    private static final List<String> TOKENS = List.of("S", "C", "F", "a", "b", "c", "d", "e", "f", "+", "-", "*",
        "^", "(", ")", "@", ";", "0", "1", "2", "3", "4", "5", "10", "99");
    private static final List<String> NO_TOKENS = List.of("100", "101", "999", "00", "01", "010", "g", "s", "A", "E",
        "#", "/", ":", "[", "]", ",", ".", "\t", "\n", "\0", "\u007f", "\u0080", "\u00a0", "\u00ff");

    private static final String NUMBERS = " 0 1 2 3 4 5 10 99 ";
    private static final String SOURCES = " a b c d e f ";
    private static final String A_PART = SOURCES + NUMBERS + " - ( @ ";
    private static final String NINE = "a+".repeat(9);

    public static void main(String[] args) {
        items();
        sources();
        joints();
        parts();
        behindAPart();
        powers();
        earlierOnes();
        behindTwentyNodes();
        eachPartHasItsValue();
        aheadOfAFaultAllIsWell();
        DUE.end();
    }

    /** Behind the text so far just these can stand; all others are the fault, where they stand. */
    private static void just(String soFar, String these) {
        for (String token : TOKENS) {
            String text = soFar + " " + token;
            boolean can = these.contains(" " + token + " ");
            if (can && token.equals(";")) {
                DUE.items(text, (int) text.chars().filter(c -> c == ';').count());
            } else {
                DUE.fault(text, can ? text.length() : soFar.length() + 1);
                DUE.fault(text + " ", can ? text.length() + 1 : soFar.length() + 1);
            }
        }
        for (String none : NO_TOKENS) {
            DUE.fault(soFar + " " + none, soFar.length() + 1);
            DUE.fault(soFar + " " + none + ";", soFar.length() + 1);
        }
    }

    private static void items() {
        DUE.about("ITEMS: S, C, F");
        for (String soFar : List.of("", "Sa1 2;", "Cab1;", "Fa;", "Fa;Fa;Fa;")) {
            just(soFar, " S C F ");
        }
        just("Fa;Fa;Fa;Fa;", " S C ");
        just("Fa;Fa;Fa;Fa;Sa1 2;", " S C ");
    }

    private static void sources() {
        DUE.about("S X V D");
        just("S", SOURCES);
        just("Sa", NUMBERS + " - ");
        just("Sa-", NUMBERS);
        just("Sa1", NUMBERS);
        just("Sa-1", NUMBERS);
        just("Sa1 2", " ; ");
        just("Sf-99 99", " ; ");
    }

    private static void joints() {
        DUE.about("C X Y N");
        just("C", SOURCES);
        for (char x = 'a'; x <= 'f'; x++) {
            just("C" + x, SOURCES.replace(" " + x + " ", " "));
        }
        just("Cab", NUMBERS + " - ");
        just("Cab-", NUMBERS);
        just("Cab1", " ; ");
        just("Cab-1", " ; ");
    }

    private static void parts() {
        DUE.about("Part: a NUMBER, a SOURCE, ( sum ), - part, @ and a NUMBER");
        for (String soFar : List.of("F", "F-", "F--", "Fa+", "Fa-", "Fa*", "Fa^2*", "F(", "F-(", "F(a)+", "F(a+",
            "F(((((((", "F((((((((a)+", "Fa;F", "Fa;F@0-", "F" + NINE)) {
            just(soFar, A_PART);
        }
        DUE.about("a ninth open (");
        String allButOpen = A_PART.replace("(", "");
        just("F((((((((", allButOpen);
        just("F((((((((-", allButOpen);
        just("F((((((((a+", allButOpen);
        just("Fa;F((((((((@0*", allButOpen);
    }

    private static void behindAPart() {
        DUE.about("Sum, product, power: behind a part");
        for (String soFar : List.of("Fa", "F7", "F-a", "Fa+b", "Fa*b", "F(a)", "F(a^2)", "F((a))", "Fa;F@0",
            "Fa^2*b", "F((((((((a))))))))", "F" + NINE + "a")) {
            just(soFar, " + - * ^ ; ");
        }
        for (String soFar : List.of("F(a", "F(7", "F(-a", "F(a+b", "F((a)", "F(a*(b)", "Fa;F(@0", "F((((((((a")) {
            just(soFar, " + - * ^ ) ");
        }
    }

    private static void powers() {
        DUE.about("Power: perhaps ^ and a NUMBER (0 .. 4)");
        for (String soFar : List.of("Fa^", "F7^", "F(a)^", "F-a^", "Fa;F@0^", "F(a^", "F" + NINE + "a^")) {
            just(soFar, " 0 1 2 3 4 ");
        }
        for (String soFar : List.of("Fa^0", "Fa^4", "Fa*b^2", "F(a^2)^2", "Fa;F@0^1")) {
            just(soFar, " + - * ; ");
        }
        just("F(a^2", " + - * ) ");
        just("F(a^2+b^2", " + - * ) ");
    }

    private static void earlierOnes() {
        DUE.about("@ and a NUMBER (a FORMULA told ahead)");
        just("F@", " ");
        just("Sa1 2;F-@", " ");
        just("Fa;F@", " 0 ");
        just("Fa;F(@0+@", " 0 ");
        just("Fa;Fa;F@", " 0 1 ");
        just("Fa;Fa;Fa;F@", " 0 1 2 ");
        just("Fa;Fa;Fa;F-" + NINE + "@", " 0 1 2 ");
    }

    private static void behindTwentyNodes() {
        DUE.about("the TOKEN of a 21st NODE of a FORMULA");
        just("F" + NINE + "-a", " ; ");
        just("F" + NINE + "a^2", " ; ");
        just("F-" + NINE + "(a)", " ; ");
        just("Fa;F-" + NINE + "@0", " ; ");
        just("F(" + NINE + "-a", " ) ");
        just("F(" + NINE + "a^2", " ) ");
        just("F" + NINE + "a+", " ( ");
        just("F" + NINE + "a-", " ( ");
        just("F" + NINE + "a*", " ( ");
        just("F" + NINE + "a*(", " ( ");
        just("F" + NINE + "a*((((((((", " ");
        just("F" + "-".repeat(20), " ( ");
    }

    private static void eachPartHasItsValue() {
        DUE.about("Part: its VALUE");
        SpreadDesk x = Due.told("Sa-3 0;Sf50 0;F7;F99;Fa;Ff;");
        long[] due = {7, 99, -3, 50};
        for (int f = 0; f < 4; f++) {
            DUE.is("a NUMBER, a SOURCE", x.value(f), due[f]);
        }
        SpreadDesk y = Due.told("Sa-3 0;F(a);F(((a-1)));F-a;F-(a+1);");
        long[] inner = {-3, -4, 3, 2};
        for (int f = 0; f < 4; f++) {
            DUE.is("( sum ), - part", y.value(f), inner[f]);
        }
        SpreadDesk z = Due.told("Sa-3 0;F--a;F---7;F-@0;F-(-@2)^2;");
        long[] signs = {-3, -7, 3, 9};
        for (int f = 0; f < 4; f++) {
            DUE.is("- - part, - @", z.value(f), signs[f]);
        }
    }

    /** Good texts, spoilt at one place by one letter: what stands ahead of the fault has none. */
    private static void aheadOfAFaultAllIsWell() {
        DUE.about("FAULT: the first TOKEN");
        List<String> texts = List.of("Sa-12 34;Cbf-5;F-(a*10+b)^2;", "Fa;F@0*(b-@0)^3;F@1--7;", "F((a+b)*c^4-(d));Se0 9;",
            "F" + NINE + "-a;Fb;", "Fa;Fb;Fc;Fd;Cde40;");
        int faults = 0;
        for (String good : texts) {
            DUE.items(good, (int) good.chars().filter(c -> c == ';').count());
            for (int at = 0; at < good.length(); at++) {
                for (char letter : "SCFaf+-*^()@;09 g".toCharArray()) {
                    faults += spoilt(good.substring(0, at) + letter + good.substring(at)) ? 1 : 0;
                    faults += spoilt(good.substring(0, at) + letter + good.substring(at + 1)) ? 1 : 0;
                }
                faults += spoilt(good.substring(0, at) + good.substring(at + 1)) ? 1 : 0;
            }
        }
        DUE.is("many have a fault", faults > 1000 ? 1 : 0, 1);
    }

    private static boolean spoilt(String text) {
        int place = -10 - Due.tell(new SpreadDesk(), text);
        if (place < 0) {
            return false;
        }
        DUE.is("the fault of '" + text + "' is in it", place <= text.length() ? 1 : 0, 1);
        String ahead = text.substring(0, Math.min(place, text.length()));
        int itself = Due.tell(new SpreadDesk(), ahead);
        DUE.is("ahead of it '" + ahead + "' is good, or ends too early", itself >= 0 || itself == -10 - place ? 1 : 0, 1);
        if (place < text.length()) {
            int end = place + 1;
            while (Character.isDigit(text.charAt(place)) && end < text.length() && Character.isDigit(text.charAt(end))) {
                end++;
            }
            DUE.fault(text.substring(0, end), place);
            DUE.fault(text.substring(0, end) + " $", place);
            DUE.fault(text.substring(0, end) + " ;Fa;", place);
        }
        return true;
    }
}
