/** Texts and what desk() answers: the items, or -10 less the fault's place (promise 4). */
public final class TextTest {
    private static final Due DUE = new Due();

    private static void items(String text, int items) {
        DUE.items(text, items);
    }

    private static void fault(String text, int place) {
        DUE.fault(text, place);
    }

    private static String again(String part, int times) {
        return part.repeat(times);
    }

    public static void main(String[] args) {
        blanks();
        sources();
        joints();
        formulas();
        operators();
        earlier();
        brackets();
        nodes();
        numbers();
        letters();
        tooEarly();
        firstOfSeveral();
        whatItTells();
        DUE.end();
    }

    private static void blanks() {
        DUE.about("blanks");
        items("", 0);
        items("   ", 0);
        items("  S  a  -  1  2  ;  ", 1);
        items("C a b - 3 ; F ( a + @ 0 ) ;".replace("@ 0", "b"), 2);
        items("Fa;F @ 0 ^ 2 * - @  0;", 2);
        fault("S a 1 2 3;", 8);
        fault("F1 2;", 3);
        fault("Fa^ 1 2;", 6);
        fault("\tSa1 2;", 0);
        fault("Sa1\n2;", 3);
    }

    private static void sources() {
        DUE.about("sources");
        items("Sa0 0;", 1);
        items("Sf-99 99;Sf99 0;", 2);
        items("Sa-0 0;", 1);
        fault("Sa1 -1;", 4);
        fault("Sa--1 1;", 3);
        fault("Sa+1 1;", 2);
        fault("Sa-b 1;", 3);
        fault("Sa1;", 3);
        fault("Sa12;", 4);
        fault("Sa1 b;", 4);
        fault("Sg1 1;", 1);
        fault("SA1 1;", 1);
        fault("S`1 1;", 1);
        fault("S1 1;", 1);
        fault("Sab1 1;", 2);
        fault("S;", 1);
        fault("Sa1 1F", 5);
        fault("SSa1 1;", 1);
    }

    private static void joints() {
        DUE.about("joints");
        items("Cab0;Cfe-99;Cef99;", 3);
        items("Cab-0;", 1);
        fault("Caa1;", 2);
        fault("Cff1;", 2);
        fault("Cag1;", 2);
        fault("Cga1;", 1);
        fault("Ca1;", 2);
        fault("Cab;", 3);
        fault("Cab-;", 4);
        fault("Cab--1;", 4);
        fault("Cab1 1;", 5);
        fault("Cabc1;", 3);
    }

    private static void formulas() {
        DUE.about("formulas");
        items("Fa;Fb;Fc;Fd;", 4);
        fault("Fa;Fb;Fc;Fd;Fe;", 12);
        fault("Fa;Fb;Fc;Fd;F", 12);
        fault("Fa;Fb;Fc;Fd;  F$", 14);
        items("Fa;Fb;Fc;Fd;Sa1 1;Cab1;", 6);
        fault("F;", 1);
        fault("Fg;", 1);
        fault("FF;", 1);
        fault("FS;", 1);
        fault("Fab;", 2);
        fault("Fa1;", 2);
        fault("F1a;", 2);
        fault("a;", 0);
        fault(";", 0);
        fault("Fa;;", 3);
        fault("1;", 0);
        fault("-;", 0);
    }

    private static void operators() {
        DUE.about("operators");
        items("Fa+b-c*d^2;", 1);
        items("F-a;", 1);
        items("F---a;", 1);
        items("Fa--b;", 1);
        items("Fa*-b;", 1);
        items("Fa+-b^2;", 1);
        items("F-(-a)^3;", 1);
        fault("F+a;", 1);
        fault("F*a;", 1);
        fault("F^2;", 1);
        fault("Fa++b;", 3);
        fault("Fa**b;", 3);
        fault("Fa*;", 3);
        fault("Fa-;", 3);
        fault("F-;", 2);
        items("Fa^0;Fa^1;Fa^4;", 3);
        fault("Fa^5;", 3);
        fault("Fa^99;", 3);
        fault("Fa^-1;", 3);
        fault("Fa^(1);", 3);
        fault("Fa^a;", 3);
        fault("Fa^;", 3);
        fault("Fa^2^2;", 4);
        fault("Fa^2a;", 4);
        items("F(a^2)^2;", 1);
    }

    private static void earlier() {
        DUE.about("@");
        fault("F@0;", 2);
        fault("F@;", 2);
        items("Fa;F@0;F@0+@1;F@2*@1*@0;", 4);
        fault("Fa;F@1;", 5);
        fault("Fa;Fa;Fa;F@3;", 11);
        fault("Fa;F@4;", 5);
        fault("Fa;F@a;", 5);
        fault("Fa;F@-0;", 5);
        fault("Fa;F@(0);", 5);
        fault("Fa;F@@0;", 5);
        fault("Fa;F@00;", 5);
        fault("Fa;F@0 0;", 7);
        fault("Sa1 1;F@0;", 8);
    }

    private static void brackets() {
        DUE.about("brackets");
        items("F(a);", 1);
        items("F" + again("(", 8) + "a" + again(")", 8) + ";", 1);
        fault("F" + again("(", 9) + "a" + again(")", 9) + ";", 9);
        fault("F" + again("(", 9), 9);
        items("F" + again("(a)+", 9) + "(a);", 1);
        items("F((a)*(b))-((c));", 1);
        items("F" + again("(", 8) + "a" + again(")", 8) + "+" + again("(", 8) + "a" + again(")", 8) + ";", 1);
        fault("F" + again("(", 7) + "a+(b)-((c))" + again(")", 7) + ";", 15);
        fault("F();", 2);
        fault("F(;", 2);
        fault("F(a;", 3);
        fault("F(a b);", 4);
        fault("F(a));", 4);
        fault("Fa);", 2);
        fault("F);", 1);
        fault("F(a)(b);", 4);
        fault("Fa(b);", 2);
        fault("F(a)b;", 4);
        fault("F(a+);", 4);
    }

    private static void nodes() {
        DUE.about("nodes");
        items("F" + again("a+", 9) + "-a;", 1);
        items("F" + again("-", 19) + "a;", 1);
        fault("F" + again("-", 20) + "a;", 21);
        fault("F" + again("-", 21) + "a;", 21);
        fault("F" + again("-", 30), 21);
        fault("F" + again("a+", 10) + "a;", 21);
        fault("F" + again("a*", 10) + "a;", 21);
        fault("F" + again("a-", 9) + "a^2^2;", 22);
        items("F" + again("a-", 9) + "a^2;", 1);
        fault("F-" + again("a-", 9) + "a^2;", 21);
        fault("F-" + again("a-", 9) + "a*2;", 21);
        fault("F-" + again("a-", 9) + "a+2;", 21);
        fault("F-" + again("a-", 9) + "a-2;", 21);
        fault("F" + again("a-", 9) + "-- 2;", 22);
        fault("F" + again("-", 20) + "77;", 21);
        fault("F" + again("-", 20) + "((f));", 23);
        fault("Fa;F" + again("-", 20) + "@0;", 24);
        items("Fa;F" + again("@0+", 9) + "@0^4;", 2);
        items("F" + again("(a)+", 9) + "(-a);", 1);
        items("F" + again("a+", 9) + "-a;F" + again("a+", 9) + "-a;F" + again("@1+", 9) + "-@0;", 3);
        items("Fa;F" + again("-", 19) + "@0;F" + again("-", 19) + "@1;F" + again("-", 19) + "@2;", 4);
    }

    private static void numbers() {
        DUE.about("numbers");
        items("F0;F9;F10;F99;", 4);
        fault("F100;", 1);
        fault("F00;", 1);
        fault("F01;", 1);
        fault("F007;", 1);
        fault("F" + again("9", 60) + ";", 1);
        fault("F4294967296;", 1);
        fault("Fa+18446744073709551616;", 3);
        fault("Sa100 0;", 2);
        fault("Sa-100 0;", 3);
        fault("Sa-01 0;", 3);
        fault("Sa0 100;", 4);
        fault("Sa0 00;", 4);
        fault("Cab-100;", 4);
        fault("Cab100;", 3);
        fault("Fa^01;", 3);
        fault("Fa^04;", 3);
        fault("Fa;F@100;", 5);
    }

    private static void letters() {
        DUE.about("letters");
        for (int letter = 0; letter < 256; letter++) {
            char sign = (char) letter;
            boolean starts = sign == ' ' || sign == 'S' || sign == 'C' || sign == 'F';
            if (!starts) {
                fault(" " + sign, 1);
            }
            boolean follows = " +-*^;".indexOf(sign) >= 0;
            if (!follows) {
                fault("F a" + sign, 3);
            }
        }
        fault("Sa1 1;$", 6);
        fault("Fa+$;", 3);
        fault("Fa;F@$;", 5);
        fault("Fs;", 1);
    }

    private static void tooEarly() {
        DUE.about("too early");
        String[] texts = {"S", "Sa", "Sa-", "Sa1", "Sa12", "Sa1 2", "C", "Ca", "Cab", "Cab-", "Cab3", "F",
            "Fa", "Fa+", "Fa*", "Fa^", "Fa^2", "F(", "F(a", "F(a)", "F-", "Fa;F", "Fa;F@", "Fa;F@0", "F12"};
        for (String text : texts) {
            fault(text, text.length());
            fault(text + "  ", text.length() + 2);
            fault("Fb; " + text, text.length() + 4);
        }
    }

    /** A fault ahead of another is the one that is told, whatever the two are. */
    private static void firstOfSeveral() {
        DUE.about("first of several");
        fault("Fa+;F100;$", 3);
        fault("F100;Fa+;", 1);
        fault("Sa1;$", 3);
        fault("Cbb100;", 2);
        fault("F@9$;", 2);
        fault("F" + again("-", 21) + "$", 21);
    }

    private static void whatItTells() {
        DUE.about("what it tells");
        SpreadDesk desk = Due.told("Sa1 2;Sb3 4;Cab5;Sa-6 7;Cba-8;F-a^2;");
        DUE.is("source(0, 0)", desk.source(0, 0), -6);
        DUE.is("source(0, 1)", desk.source(0, 1), 7);
        DUE.is("source(1, 0)", desk.source(1, 0), 3);
        DUE.is("source(1, 1)", desk.source(1, 1), 4);
        DUE.is("joint(0, 1)", desk.joint(0, 1), -8);
        DUE.is("joint(1, 0)", desk.joint(1, 0), -8);
        DUE.is("value(0)", desk.value(0), 36);
        values("F2+3*4;", 14);
        values("F2*3+4;", 10);
        values("F10-4-3;", 3);
        values("F10-(4-3);", 9);
        values("F2*3^2;", 18);
        values("F-3^2;", 9);
        values("F0-3^2;", -9);
        values("F--3^3;", 27);
        values("F-(2+1)^3;", -27);
        values("F2--3;", 5);
        values("F2*-3;", -6);
        values("F(1+2)*(3+4);", 21);
        values("F0^0;", 1);
        values("F7^0+0^4+7^1;", 8);
        values("F((((((((9))))))));", 9);
    }

    private static void values(String text, long value) {
        DUE.is("value(0) of '" + text + "'", Due.told(text).value(0), value);
    }
}
