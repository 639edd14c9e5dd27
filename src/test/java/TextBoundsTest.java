/**
 * Section 1 of the document, sentence by sentence, where one names a bound of THE TEXT: what is too
 * much or too little by one, what is empty, what is full. The name of each test is its sentence.
 */
public final class TextBoundsTest {
    private static final Due DUE = new Due();

    public static void main(String[] args) {
        hundredLettersAtMost();
        theTextMayBeEmpty();
        toldLetterByLetter();
        blanksBetweenTokens();
        onlyLetter32IsABlank();
        eachItemIsEnded();
        aSourceIsToldByValueAndSpread();
        aJointIsToldByTwoSourcesAndANumber();
        theNextFormula();
        perhapsOneMinusAhead();
        noMinusAheadOfASpread();
        aSumOfOneProductOrMore();
        aProductOfOnePowerOrMore();
        perhapsOnePower();
        powers0To4();
        eightOpenAtMost();
        openCountsWithinOneFormula();
        aFormulaToldAhead();
        noNodesAreTooFew();
        twentyNodesAtMost();
        eachKindOfNodeCounts();
        noOtherTokenCounts();
        nodesCountAsTheirTokensCome();
        nodesCountAnewForEachFormula();
        sourcesAToFInTheText();
        aSecondSourceThatIsTheFirst();
        aFifthFormula();
        numbersUpTo99();
        no0AheadOfOthers();
        noOtherLetter();
        theFirstLetterOfTheToken();
        theFirstTokenOfSeveral();
        theLengthIfItEndsTooEarly();
        theFaultOfAFullText();
        toldAgainAsToldLast();
        DUE.end();
    }

    private static void items(String text, int items) {
        DUE.items(text, items);
    }

    private static void fault(String text, int place) {
        DUE.fault(text, place);
    }

    private static void hundredLettersAtMost() {
        DUE.about("a text (100 letters at most)");
        String ninetyNine = "Fa;" + " ".repeat(90) + "Sf1 2;";
        items(ninetyNine, 2);
        items(" " + ninetyNine, 2);
        fault("  " + ninetyNine, 100);
        SpreadDesk x = new SpreadDesk();
        Due.type(x, ninetyNine);
        DUE.is("letters", x.count(2), 99);
        DUE.is("the 100th", x.type(' '), 100);
        DUE.is("the 101st", x.type(' '), SpreadDesk.FULL);
        DUE.is("letters", x.count(2), 100);
        DUE.is("desk()", x.desk(), 2);
        DUE.is("letters behind desk()", x.count(2), 0);
        DUE.is("the first of the next", x.type(' '), 1);
    }

    private static void theTextMayBeEmpty() {
        DUE.about("THE TEXT is empty");
        SpreadDesk x = Due.told("Sa1 2;Cab3;Fa;");
        DUE.is("letters", x.count(2), 0);
        DUE.is("clear()", x.clear(), 0);
        DUE.is("desk()", x.desk(), 0);
        DUE.is("formulas", x.count(0), 0);
        DUE.is("source(0, 0)", x.source(0, 0), 0);
        DUE.is("source(0, 1)", x.source(0, 1), 0);
        DUE.is("joint(0, 1)", x.joint(0, 1), 0);
        DUE.is("desk() again", x.desk(), 0);
        items(" ", 0);
        items(" ".repeat(100), 0);
    }

    private static void toldLetterByLetter() {
        DUE.about("told letter by letter");
        SpreadDesk x = new SpreadDesk();
        String text = "Fa+b;";
        for (int i = 0; i < text.length(); i++) {
            DUE.is("formulas ahead of desk()", x.count(0), 0);
            DUE.is("type()", x.type(text.charAt(i)), i + 1);
            DUE.is("letters", x.count(2), i + 1);
        }
        DUE.is("desk()", x.desk(), 1);
        DUE.is("formulas", x.count(0), 1);
    }

    private static void blanksBetweenTokens() {
        DUE.about("blanks (32) between TOKENS");
        String[] tokens = {"S", "a", "-", "12", "34", ";", "C", "b", "f", "-", "5", ";", "F", "-", "(", "a", "*",
            "10", ")", "^", "2", ";", "F", "@", "0", "-", "7", ";"};
        items(String.join(" ", tokens), 4);
        items("  " + String.join("  ", tokens) + "  ", 4);
        items(String.join("", tokens).replace("1234", "12 34"), 4);
        items(String.join("", tokens).replace("1234", "1 34"), 4);
        fault(String.join("", tokens), 3);
        fault("F1 0;", 3);
        fault("Sa1 2 3;", 6);
        fault("Cab1 0;", 5);
        fault("Fa;F@0 0;", 7);
    }

    private static void onlyLetter32IsABlank() {
        DUE.about("blanks (32)");
        items("Fa\u0020;", 1);
        for (int letter : new int[] {0, 1, 8, 9, 10, 11, 12, 13, 28, 31, 33, 95, 127, 128, 160, 255}) {
            fault("Fa" + (char) letter + ";", 2);
            fault((char) letter + "Fa;", 0);
            fault("Fa;" + (char) letter, 3);
        }
    }

    private static void eachItemIsEnded() {
        DUE.about("ITEMS, each ended by ;");
        items("Sa1 2;", 1);
        items("Sa1 2;Sa1 2;", 2);
        items("Fa;Fa;Fa;Fa;" + "Cab1;".repeat(17), 21);
        fault(";", 0);
        fault("Sa1 2;;", 6);
        fault(";Sa1 2;", 0);
        fault("Sa1 2", 5);
        fault("Sa1 2Sb1 2;", 5);
        fault("Cab1Sb1 2;", 4);
        fault("FaFb;", 2);
        fault("Sa1 2;Cab1", 10);
    }

    private static void aSourceIsToldByValueAndSpread() {
        DUE.about("S X V D");
        items("Sa1 2;", 1);
        fault("S1 2;", 1);
        fault("S;", 1);
        fault("Sa;", 2);
        fault("Sa-;", 3);
        fault("Sa1;", 3);
        fault("Sab1 2;", 2);
        fault("Sa1 2 3;", 6);
        fault("Sa1 b;", 4);
        fault("a1 2;", 0);
    }

    private static void aJointIsToldByTwoSourcesAndANumber() {
        DUE.about("C X Y N");
        items("Cab1;", 1);
        fault("C;", 1);
        fault("Ca;", 2);
        fault("Ca1;", 2);
        fault("Cab;", 3);
        fault("Cab-;", 4);
        fault("Cabc1;", 3);
        fault("Cab1 2;", 5);
    }

    private static void theNextFormula() {
        DUE.about("F and a sum (the next FORMULA)");
        SpreadDesk x = Due.told("F10;Sa1 2;F11;Cab1;F12;F13;");
        for (int f = 0; f < 4; f++) {
            DUE.is("value(" + f + ")", x.value(f), 10 + f);
        }
        DUE.is("value(4)", x.value(4), SpreadDesk.NO);
        fault("F;", 1);
        fault("F ;", 2);
    }

    private static void perhapsOneMinusAhead() {
        DUE.about("V, N: a NUMBER, perhaps with - ahead");
        SpreadDesk x = Due.told("Sa0 0;Sb-0 0;Sc99 0;Sd-99 0;Cab-0;Ccd99;Cef-99;");
        long[] due = {0, 0, 99, -99};
        for (int s = 0; s < 4; s++) {
            DUE.is("source(s, 0)", x.source(s, 0), due[s]);
        }
        DUE.is("joint(0, 1)", x.joint(0, 1), 0);
        DUE.is("joint(2, 3)", x.joint(2, 3), 99);
        DUE.is("joint(4, 5)", x.joint(4, 5), -99);
        fault("Sa--1 0;", 3);
        fault("Sa+1 0;", 2);
        fault("Sa1- 0;", 3);
        fault("Cab--1;", 4);
        fault("Cab+1;", 3);
        fault("Cab1-;", 4);
        fault("Sa100 0;", 2);
        fault("Sa-100 0;", 3);
        fault("Cab100;", 3);
        fault("Cab-100;", 4);
    }

    private static void noMinusAheadOfASpread() {
        DUE.about("D: SPREAD (0 .. 99)");
        SpreadDesk x = Due.told("Sa5 0;Sb5 99;");
        DUE.is("source(0, 1)", x.source(0, 1), 0);
        DUE.is("source(1, 1)", x.source(1, 1), 99);
        fault("Sa5-1;", 3);
        fault("Sa5 -1;", 4);
        fault("Sa5-0;", 3);
        fault("Sa5 100;", 4);
        fault("Sa5 00;", 4);
    }

    private static void aSumOfOneProductOrMore() {
        DUE.about("sum: product { (+ | -) product }");
        items("Fa;", 1);
        items("Fa+b;", 1);
        items("Fa-b+c;", 1);
        fault("F+a;", 1);
        fault("Fa+;", 3);
        fault("Fa-;", 3);
        fault("Fa++b;", 3);
        fault("Fa-+b;", 3);
        DUE.is("from the left", Due.told("F9-4-3;").value(0), 2);
        DUE.is("from the left", Due.told("F9-4+3;").value(0), 8);
    }

    private static void aProductOfOnePowerOrMore() {
        DUE.about("product: power { * power }");
        items("Fa*b;", 1);
        items("Fa*b*c;", 1);
        fault("F*a;", 1);
        fault("Fa*;", 3);
        fault("Fa**b;", 3);
        fault("Fab;", 2);
        fault("F2a;", 2);
        fault("Fa2;", 2);
        fault("F2(a);", 2);
        fault("F(a)b;", 4);
        DUE.is("ahead of a sum", Due.told("F2+3*4-5*6;").value(0), -16);
    }

    private static void perhapsOnePower() {
        DUE.about("power: part, perhaps ^ and a NUMBER");
        items("Fa;Fa^2;F(a^2)^2;", 3);
        fault("Fa^2^2;", 4);
        fault("F^2;", 1);
        fault("Fa^;", 3);
        fault("Fa^a;", 3);
        fault("Fa^-1;", 3);
        fault("Fa^(1);", 3);
        fault("Fa^@0;", 3);
        DUE.is("a part with its -", Due.told("F-3^2;").value(0), 9);
        DUE.is("ahead of a product", Due.told("F2*3^2;").value(0), 18);
        DUE.is("an @ has one too", Due.told("F3;F@0^2;").value(1), 9);
    }

    private static void powers0To4() {
        DUE.about("^ and a NUMBER (0 .. 4)");
        SpreadDesk x = Due.told("Sa3 0;Fa^0;Fa^1;Fa^4;");
        DUE.is("3 ^ 0", x.value(0), 1);
        DUE.is("3 ^ 1", x.value(1), 3);
        DUE.is("3 ^ 4", x.value(2), 81);
        fault("Fa^5;", 3);
        fault("Fa^  5;", 5);
        fault("Fa^10;", 3);
        fault("Fa^99;", 3);
        fault("Fa^100;", 3);
        fault("Fa^04;", 3);
    }

    private static void eightOpenAtMost() {
        DUE.about("( sum ) (8 within one another at most)");
        String eight = "(".repeat(8) + "9" + ")".repeat(8);
        DUE.is("eight", Due.told("F" + eight + ";").value(0), 9);
        items("F" + eight + "+" + eight + ";", 1);
        items("F" + "(".repeat(7) + "(a)*(b)-(c)" + ")".repeat(7) + ";", 1);
        fault("F(" + eight + ");", 9);
        fault("F" + "(".repeat(9), 9);
        fault("F" + "(".repeat(8) + " (a", 10);
        fault("F" + "(".repeat(7) + "(a)*((b))" + ")".repeat(7) + ";", 13);
        fault("F" + "(".repeat(8) + "a" + ")".repeat(9) + ";", 18);
        fault("F" + "(".repeat(8) + "a" + ")".repeat(7) + ";", 17);
        fault("F(a;", 3);
        fault("Fa);", 2);
        fault("F();", 2);
    }

    private static void openCountsWithinOneFormula() {
        DUE.about("( sum ) (8 within one another at most), and as many in the next");
        String eight = "F" + "(".repeat(8) + "a" + ")".repeat(8) + ";";
        items(eight + eight + eight + eight, 4);
        fault(eight + "F" + "(".repeat(9), 28);
    }

    private static void aFormulaToldAhead() {
        DUE.about("@ and a NUMBER (a FORMULA told ahead)");
        SpreadDesk x = Due.told("F5;F@0+1;F@1+@0;F@2+@1+@0;");
        DUE.is("value(3)", x.value(3), 22);
        fault("F@0;", 2);
        fault("F5;F@1;", 5);
        fault("F5;F5;F@2;", 8);
        fault("F5;F5;F5;F@3;", 11);
        fault("F5;F5;F5;F@4;", 11);
        fault("Sa1 2;F@0;", 8);
        fault("F5;F@100;", 5);
        fault("F5;F@00;", 5);
        fault("F5;F@-0;", 5);
        fault("F5;F@a;", 5);
        fault("F5;F@;", 5);
        SpreadDesk y = Due.told("F5;F6;");
        Due.type(y, "F@0;F5;");
        DUE.is("one of the text before", y.desk(), -12);
    }

    private static void noNodesAreTooFew() {
        DUE.about("1 NODE at least");
        SpreadDesk x = Due.told("Sa3 0;F0;Fa;F@1;");
        for (int f = 0; f < 3; f++) {
            DUE.is("nodes", x.formula(f, 0), 1);
        }
        fault("F;", 1);
        fault("F();", 2);
    }

    private static void twentyNodesAtMost() {
        DUE.about("20 NODES at most");
        String nineteen = "a+".repeat(9) + "a";
        DUE.is("19", Due.told("F" + nineteen + ";").formula(0, 0), 19);
        DUE.is("20", Due.told("F-" + nineteen + ";").formula(0, 0), 20);
        fault("F--" + nineteen + ";", 21);
        fault("F" + nineteen + "+a;", 21);
        fault("F" + "a+".repeat(10) + ";", 21);
        fault("F" + "a+".repeat(10), 21);
    }

    private static void eachKindOfNodeCounts() {
        DUE.about("NODES: each NUMBER, SOURCE, @, operator");
        String eighteen = "Fa;F" + "a+".repeat(9);
        String twenty = eighteen + "a+";
        for (String part : new String[] {"7", "99", "a", "f", "@0"}) {
            items(eighteen + part + ";", 2);
            items(eighteen + "-" + part + ";", 2);
            fault(eighteen + "--" + part + ";", 24);
            fault(twenty + part + ";", 24);
            fault(twenty + " " + part + ";", 25);
            fault(twenty + "-" + part + ";", 24);
        }
        for (String operator : new String[] {"+", "-", "*", "^"}) {
            String part = operator.equals("^") ? "2" : "a";
            items("F" + "a+".repeat(8) + "a" + operator + part + ";", 1);
            fault("F-" + "a+".repeat(9) + "a" + operator + part + ";", 21);
            fault("F-" + "a+".repeat(9) + "a " + operator + part + ";", 22);
        }
        items("F" + "a+".repeat(9) + "a^2;", 1);
        fault("F" + "a+".repeat(9) + "a*2;", 21);
        items("F" + "-".repeat(19) + "a;", 1);
        fault("F" + "-".repeat(20) + "a;", 21);
        fault("F" + "-".repeat(21) + "a;", 21);
    }

    private static void noOtherTokenCounts() {
        DUE.about("NODES: each NUMBER (but behind ^, @)");
        SpreadDesk x = Due.told("Fa^2;F@0;F((a));F(@0^3);");
        int[] due = {2, 1, 1, 2};
        for (int f = 0; f < 4; f++) {
            DUE.is("nodes of " + f, x.formula(f, 0), due[f]);
        }
        items("F" + "a+".repeat(9) + "a^2;", 1);
        items("Fa;F" + "a+".repeat(9) + "@0^2;", 2);
        items("F" + "a+".repeat(9) + "((((a))))^2;", 1);
        items("F" + "a+".repeat(9) + "(-a);", 1);
        fault("F" + "a+".repeat(10) + "((a));", 23);
        fault("F" + "a+".repeat(10) + "(", 22);
    }

    private static void nodesCountAsTheirTokensCome() {
        DUE.about("they count as their TOKENS come; an operator's is its sign");
        fault("F" + "a+".repeat(9) + "-a+a;", 21);
        fault("F" + "a+".repeat(9) + "a^2+a;", 22);
        fault("F(" + "a+".repeat(9) + "a)*a+a;", 23);
        fault("F" + "a+".repeat(9) + "(a)-(a);", 24);
        fault("F(" + "a+".repeat(9) + "a)^2^", 24);
        fault("F-(" + "a+".repeat(9) + "a) ^2;", 24);
    }

    private static void nodesCountAnewForEachFormula() {
        DUE.about("FORMULAS of 1 to 20 NODES each");
        String twenty = "F-" + "a+".repeat(9) + "a;";
        items(twenty + twenty + twenty + twenty, 4);
        items("Fa;F-" + "@0+".repeat(9) + "a;F-" + "@1+".repeat(9) + "@0;F@2;", 4);
        fault(twenty + "F--" + "a+".repeat(9) + "a;", 43);
    }

    private static void sourcesAToFInTheText() {
        DUE.about("SOURCES a to f");
        for (char source = 'a'; source <= 'f'; source++) {
            items("S" + source + "1 2;", 1);
            items("C" + source + (source == 'a' ? 'f' : 'a') + "1;", 1);
            items("C" + (source == 'a' ? 'f' : 'a') + source + "1;", 1);
            items("F" + source + ";", 1);
        }
        for (char none : new char[] {'`', 'g', 'A', 'F', 'z'}) {
            fault("S" + none + "1 2;", 1);
            fault("C" + none + "a1;", 1);
            fault("Ca" + none + "1;", 2);
            fault("F" + none + ";", 1);
        }
    }

    private static void aSecondSourceThatIsTheFirst() {
        DUE.about("Y that is X");
        for (char x = 'a'; x <= 'f'; x++) {
            for (char y = 'a'; y <= 'f'; y++) {
                String text = "C " + x + " " + y + " 1;";
                DUE.is(text, Due.tell(new SpreadDesk(), text), x == y ? -14 : 1);
            }
        }
    }

    private static void aFifthFormula() {
        DUE.about("a fifth F");
        items("Fa;Fb;Fc;Fd;", 4);
        items("Fa;Fb;Fc;Fd;Sa1 1;Cab1;", 6);
        fault("Fa;Fb;Fc;Fd;Fe;", 12);
        fault("Fa;Fb;Fc;Fd;F", 12);
        fault("Fa;Fb;Fc;Fd; F", 13);
        fault("Fa;Fb;Fc;Fd;Sa1 1;Fe;", 18);
        SpreadDesk x = Due.told("Fa;Fb;Fc;Fd;");
        DUE.is("four of the text before", Due.tell(x, "Fa;Fb;Fc;Fd;"), 4);
    }

    private static void numbersUpTo99() {
        DUE.about("a NUMBER above 99");
        items("F99;", 1);
        items("F10;", 1);
        items("F9;", 1);
        fault("F100;", 1);
        fault("F101;", 1);
        fault("F999;", 1);
        fault("F1000;", 1);
        fault("F256;", 1);
        fault("F4294967296;", 1);
        fault("F4294967297;", 1);
        fault("F18446744073709551617;", 1);
        fault("F" + "1".repeat(99), 1);
        fault("Fa+100;", 3);
        fault("F(100);", 2);
        fault("F-100;", 2);
        fault("Fa100;", 2);
        fault("F1 100;", 3);
        fault("100", 0);
    }

    private static void no0AheadOfOthers() {
        DUE.about("a NUMBER with a 0 ahead of others");
        items("F0;", 1);
        items("F10;", 1);
        fault("F00;", 1);
        fault("F01;", 1);
        fault("F09;", 1);
        fault("F010;", 1);
        fault("F000;", 1);
        fault("Sa01 1;", 2);
        fault("Sa-01 1;", 3);
        fault("Sa1 01;", 4);
        fault("Cab01;", 3);
        fault("Cab-01;", 4);
        fault("Fa^01;", 3);
        fault("Fa;F@00;", 5);
        fault("00", 0);
    }

    private static void noOtherLetter() {
        DUE.about("any other letter");
        String letters = "SCFabcdef+-*^()@;0123456789 ";
        int others = 0;
        for (int letter = 0; letter < 256; letter++) {
            if (letters.indexOf(letter) < 0) {
                others++;
                fault("Sa1 2;" + (char) letter, 6);
                fault("Sa" + (char) letter + "1 2;", 2);
                fault("Cab" + (char) letter + "1;", 3);
                fault("Fa+" + (char) letter + ";", 3);
                fault("Fa^" + (char) letter + ";", 3);
            }
        }
        DUE.is("others", others, 256 - 28);
    }

    private static void theFirstLetterOfTheToken() {
        DUE.about("the place of the first letter of the TOKEN");
        fault("Fa 12;", 3);
        fault("Fa   12  ;", 5);
        fault("Sa1 2   34;", 8);
        fault("   Sa1  ;", 8);
        fault("  ;", 2);
        fault("Fa;   F^", 7);
    }

    private static void theFirstTokenOfSeveral() {
        DUE.about("the first TOKEN that can't stand there");
        fault("Fa+;F100;$", 3);
        fault("F100;Fa+;$", 1);
        fault("$F100;Fa+;", 0);
        fault("Caa100;", 2);
        fault("Fa;Fa;Fa;Fa;F@9;", 12);
        fault("Fa^5", 3);
        fault("F@9$", 2);
    }

    private static void theLengthIfItEndsTooEarly() {
        DUE.about("the text's length, if it ends too early");
        String whole = "Sa-12 34;Cbf-5;F-(a*10+@0)^2;".replace("@0", "b");
        for (int length = 1; length <= whole.length(); length++) {
            String part = whole.substring(0, length);
            if (part.endsWith(";")) {
                items(part, (int) part.chars().filter(c -> c == ';').count());
            } else {
                fault(part, length);
                fault(part + " ", length + 1);
            }
        }
        fault("Fa;F@", 5);
        fault("Fa;F@0", 6);
        fault("Fa;F@0^", 7);
        SpreadDesk x = new SpreadDesk();
        DUE.is("a longer text", Due.tell(x, "Sa1 23;Fa;"), 2);
        DUE.is("its letters are gone", Due.tell(x, "Sa1 2"), -15);
        DUE.is("its letters are gone", Due.tell(x, "Sa1"), -13);
        DUE.is("its letters are gone", Due.tell(x, "Sa"), -12);
        DUE.is("its letters are gone", Due.tell(x, "Sa1 23;F"), -18);
        DUE.is("its letters are gone", Due.tell(x, ""), 0);
    }

    private static void theFaultOfAFullText() {
        DUE.about("-10 less FAULT, from 0 to 100");
        String blanks = " ".repeat(96);
        fault(";" + " ".repeat(99), 0);
        fault(blanks + "Fa;;", 99);
        fault(blanks + "Fa;F", 100);
        fault(" ".repeat(99) + "F", 100);
        fault("F" + " ".repeat(99), 100);
        fault("F" + " ".repeat(98) + "$", 99);
        fault(" ".repeat(98) + "10", 98);
        items(blanks + " Fa;", 1);
    }

    private static void toldAgainAsToldLast() {
        DUE.about("what is told again is as told last");
        SpreadDesk x = Due.told("Sa1 2;Sb3 4;Cab5;Sa-6 7;Cba-8;Sb0 0;Ccd9;Ccd0;");
        DUE.is("source(0, 0)", x.source(0, 0), -6);
        DUE.is("source(0, 1)", x.source(0, 1), 7);
        DUE.is("source(1, 0)", x.source(1, 0), 0);
        DUE.is("source(1, 1)", x.source(1, 1), 0);
        DUE.is("joint(0, 1)", x.joint(0, 1), -8);
        DUE.is("joint(1, 0)", x.joint(1, 0), -8);
        DUE.is("joint(2, 3)", x.joint(2, 3), 0);
        DUE.is("items told again count", Due.tell(x, "Sa1 2;Sa1 2;Sa1 2;Cab1;Cba1;"), 5);
    }
}
