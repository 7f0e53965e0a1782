/** THE LAW (part 1 of the Terms, promises 8 and 9): each sentence that names an edge, on its own. */
public final class EdgesLawTest {
    public static void main(String[] args) {
        linesOneOrMore();
        lineIsEOrEAndE();
        joinedOnceOrOften();
        oneComparisonAtMost();
        numbersOfOneToFourDigits();
        namesAlone();
        noBlanks();
        sixAreOpenAtMost();
        openOnesAreClosed();
        faultIsTheFirstByte();
        faultIsTheLength();
        intsThatWrap();
        towardZero();
        byZero();
        signsGiveOneOrZero();
        signsBindAsWritten();
        whichLineCounts();
        noneOfALongerTextBefore();
        eachByteIsWorkedOut();
        heldWithinTwelve();
        withoutAText();
        namesInTheOdds();
        whatCantBeHasNoOdds();
        whichSlippingsAre();
        Check.finish();
    }

    /** What law() answers to a text on a new object. */
    private static void law(String text, int want) {
        Check.due("law " + text, Check.tell(new LotNobodyWants(), text), want);
    }

    private static void isText(String... texts) {
        for (String text : texts) {
            law(text, 1);
        }
    }

    private static void fault(String text, int place) {
        law(text, -100 - place);
    }

    /** WARY 4 and 9, HOUR 3, SEEN 2; the one SLIPPING is 1: FOLDS 1, and the other one has two TICKETS. */
    private static LotNobodyWants scene() {
        LotNobodyWants x = Scenes.people(4, 9);
        Scenes.tickets(x, 0, 1, 1);
        x.mend(0, 6, 1);
        x.mend(0, 7, 3);
        x.mend(0, 8, 2);
        return x;
    }

    private static void odds(String text, int want) {
        LotNobodyWants x = scene();
        Check.due("law " + text, Check.tell(x, text), 1);
        Check.due("odds by " + text, x.odds(1), want);
    }

    /** Whether a text's number is 0 or not can be told whatever its size. */
    private static void isSo(String comparison) {
        odds("(" + comparison + ")*7+2", 9);
    }

    /** "LINES, one or more, parted by ;" */
    private static void linesOneOrMore() {
        fault("", 0);
        fault(";", 0);
        isText("1", "1;2", "1;2;3;4;5;6;7;8;9");
        fault("1;", 2);
        fault(";1", 0);
        fault("1;;2", 2);
        StringBuilder most = new StringBuilder("1");
        while (most.length() < 119) {
            most.append(";1");
        }
        law(most.toString(), 1);
        law(most + ";", -220);
        law(most + "1", 1);
        odds("0?1;".repeat(29) + "5", 5);
    }

    /** "LINE: E, or E ? E" */
    private static void lineIsEOrEAndE() {
        isText("1?2", "1?2;3?4;5");
        fault("?1", 0);
        fault("1?", 2);
        fault("1?;2", 2);
        fault("1?2?3", 3);
        fault("(1?2)", 2);
        fault("1??2", 2);
    }

    /** "E = A { | A }" and so on: none, one or more. */
    private static void joinedOnceOrOften() {
        String[] signs = {"|", "&", "+", "-", "*", "/", "%"};
        for (String sign : signs) {
            isText("1" + sign + "2", ("1" + sign).repeat(59) + "2");
            fault("1" + sign, 2);
            fault("1" + sign + ")", 2);
            fault("1" + sign + sign.replace("-", "*") + "1", 2);
            if (!sign.equals("-")) {
                fault(sign + "1", 0);
            }
        }
    }

    /** "B = S, or S < S, S = S, S > S" */
    private static void oneComparisonAtMost() {
        String[] signs = {"<", "=", ">"};
        for (String a : signs) {
            isText("1" + a + "2", "1+1" + a + "2*2", "1" + a + "2&1" + a + "2|1" + a + "2", "(1" + a + "2)" + a + "3", "!1" + a + "-2");
            fault(a + "1", 0);
            fault("1" + a, 2);
            for (String b : signs) {
                fault("1" + a + "2" + b + "3", 3);
                fault("1" + a + b + "2", 2);
                fault("4&1" + a + "2+5" + b + "3", 7);
                fault("(1" + a + "2" + b + "3)", 4);
            }
        }
    }

    /** "a number (1 to 4 digits)" */
    private static void numbersOfOneToFourDigits() {
        isText("0", "9", "10", "999", "1000", "9999", "0000");
        fault("10000", 4);
        fault("00000", 4);
        fault("1+10000", 6);
        fault("12345678", 4);
        odds("0009", 9);
        isSo("9999=9998+1");
        isSo("9999>9998");
        isSo("1000=999+1");
        isSo("0=0000");
        for (int digit = 0; digit < 10; digit++) {
            odds(String.valueOf((char) ('0' + digit)), digit);
        }
        fault("/", 0);
        fault(":", 0);
    }

    /** "NAMES: w .. b .. n .. f .. h .. s" and no other byte. */
    private static void namesAlone() {
        for (int letter = 0; letter < 256; letter++) {
            LotNobodyWants x = new LotNobodyWants();
            x.feed(letter);
            boolean operand = letter >= '0' && letter <= '9' || "wbnfhs".indexOf(letter) >= 0;
            boolean ahead = letter == '(' || letter == '!' || letter == '-';
            Check.due("law of the byte " + letter, x.law(), operand ? 1 : ahead ? -101 : -100);
        }
        for (int letter = 0; letter < 256; letter++) {
            LotNobodyWants x = new LotNobodyWants();
            x.feed('w');
            x.feed(letter);
            Check.due("law of w and the byte " + letter, x.law(), "|&<=>+-*/%?;".indexOf(letter) >= 0 ? -102 : -101);
        }
        fault("wb", 1);
        fault("w1", 1);
        fault("1w", 1);
        fault("1!", 1);
        fault("1(", 1);
        fault("(1)1", 3);
        fault("(1)(1)", 3);
    }

    /** "No blanks." */
    private static void noBlanks() {
        fault(" 1", 0);
        fault("1 ", 1);
        fault("1 +1", 1);
        fault("1+ 1", 2);
        fault("1\n", 1);
        fault("\t1", 0);
    }

    /** "At most 6 of ( ! - ahead of an O are open at once." */
    private static void sixAreOpenAtMost() {
        String[] signs = {"(", "!", "-"};
        for (String a : signs) {
            String close = a.equals("(") ? ")" : "";
            isText(a.repeat(6) + "1" + close.repeat(6), a.repeat(5) + "1" + close.repeat(5));
            fault(a.repeat(7) + "1" + close.repeat(7), 6);
            fault(a.repeat(120), 6);
            fault("1+" + a.repeat(7) + "1", 8);
            fault("1?" + a.repeat(7) + "1", 8);
            fault("1;" + a.repeat(7) + "1", 8);
            for (String b : signs) {
                fault(a.repeat(6) + b + "1", 6);
                fault(a.repeat(3) + b.repeat(4) + "1", 6);
                String both = a.repeat(3) + b.repeat(3) + "1";
                int brackets = (a.equals("(") ? 3 : 0) + (b.equals("(") ? 3 : 0);
                isText(both + ")".repeat(brackets));
            }
        }
        odds("!!!!!!5", 1);
        odds("------5", 5);
        odds("((((((5))))))", 5);
    }

    /** ".. open at once": what is closed counts no more. */
    private static void openOnesAreClosed() {
        isText("!!!!!!1+!!!!!!1", "------1*------1", "((((((1))))))-((((((1))))))", "(((((!1+-1)))))", "((((((1)+(1))))))");
        isText("!!!!!!1<!!!!!!1", "!!!!!!1?!!!!!!1;!!!!!!1", "(((((-1)*-1)*-1)*-1)*-1)");
        fault("!!!!!!1+!!!!!!!1", 14);
        fault("((((((1)+((1)", 10);
        fault("((((((!1", 6);
        fault("(((((!-1", 6);
        fault("!(1+!(1+!(1+!1", 12);
        isText("!(1+!(1+!(1+1)))");
        fault("-(1)+((((((1+-1", 13);
    }

    /** "FAULT: the place (from 0) of the first byte with which no TEXT goes on" */
    private static void faultIsTheFirstByte() {
        fault("x", 0);
        fault("1x", 1);
        fault("1)", 1);
        fault("(1))", 3);
        fault("()", 1);
        fault("1+*2x", 2);
        fault("1;2;x;y", 4);
        fault("w+b-n*f/h%s!", 11);
        LotNobodyWants x = new LotNobodyWants();
        for (int k = 0; k < 119; k++) {
            x.feed(k % 2 == 0 ? 'w' : '+');
        }
        x.feed('w');
        Check.due("a fault at 119", x.law(), -219);
    }

    /** "the length, if it ends too early" */
    private static void faultIsTheLength() {
        fault("(", 1);
        fault("(1", 2);
        fault("((1)", 4);
        fault("!", 1);
        fault("1+2*3-", 6);
        fault("(((((((".substring(1), 6);
        fault("1?(2|3", 6);
        fault("(1;2)", 2);
        StringBuilder longest = new StringBuilder();
        while (longest.length() < 120) {
            longest.append("1-");
        }
        fault(longest.toString(), 120);
        fault("(" + longest.substring(0, 119), 120);
    }

    /** "Ints that wrap" */
    private static void intsThatWrap() {
        isSo("4096*4096*128<0");
        isSo("4096*4096*127+4096*4096<0");
        isSo("4096*4096*128-1>0");
        isSo("-(4096*4096*128)<0");
        isSo("4096*4096*256=0");
        isSo("4096*4096*128/-1=4096*4096*128");
        isSo("4096*4096*128%-1=0");
        isSo("9999*9999*9999=" + "(" + "9999*9999%4096+9999*9999/4096*4096)*9999");
        isSo("9999*9999*9999<9999*9999");
        odds("4096*4096*256+3", 3);
        odds("4096*4096*128", 0);
        odds("4096*4096*128-1", 12);
    }

    /** "/ and % toward 0" */
    private static void towardZero() {
        odds("7/2", 3);
        odds("-7/2+9", 6);
        odds("7/-2+9", 6);
        odds("-7/-2", 3);
        odds("1/2", 0);
        odds("-1/2", 0);
        odds("7%2", 1);
        odds("-7%2+9", 8);
        odds("7%-2+9", 10);
        odds("-7%-2+9", 8);
        odds("-6%3", 0);
        odds("11/12", 0);
        odds("12/12", 1);
    }

    /** "by 0 they give 0" */
    private static void byZero() {
        odds("7/0+4", 4);
        odds("7%0+4", 4);
        odds("0/0+4", 4);
        odds("-7/0+4", 4);
        odds("-7%(1-1)+4", 4);
        odds("0?1/0;6", 6);
        odds("1/0?5;6", 6);
    }

    /** "| & < = > ! give 1, 0; all is worked out" */
    private static void signsGiveOneOrZero() {
        String[] ones = {"3|4", "3|0", "0|4", "-1|0", "3&4", "-1&-2", "2<3", "-3<-2", "3=3", "0=0", "3>2", "0>-1", "!0", "!!9", "!!-9"};
        String[] zeros = {"0|0", "3&0", "0&4", "0&0", "3<3", "3<2", "3=2", "2=3", "3>3", "2>3", "!1", "!-1", "!9", "!!0", "1-1|0"};
        for (String one : ones) {
            odds(one, 1);
            odds("(" + one + ")*5+(" + one + ")", 6);
        }
        for (String zero : zeros) {
            odds(zero, 0);
            odds("8-(" + zero + ")", 8);
        }
        odds("(1|1/0)+2", 3);
        odds("(0&1/0)+2", 2);
    }

    /** "E = A { | A }. A = B { & B }. B = S .. S = P { + P, - P }. P = O { * O .." */
    private static void signsBindAsWritten() {
        odds("1|0&0", 1);
        odds("(1|0)&0", 0);
        odds("0&0|1", 1);
        odds("2&1<2", 1);
        odds("1<2&2", 1);
        odds("1+1=2", 1);
        odds("2=1+1", 1);
        odds("2+3*2", 8);
        odds("3*2+2", 8);
        odds("(2+3)*2", 10);
        odds("9-3-2", 4);
        odds("9-(3-2)", 8);
        odds("9-3+2", 8);
        odds("8/2*3", 12);
        odds("8/4/2", 1);
        odds("7%4*2", 6);
        odds("2*7%4", 2);
        odds("!1+1", 1);
        odds("!(1+1)", 0);
        odds("-2+9", 7);
        odds("-(2+9)+12", 1);
        odds("-2*-3", 6);
        odds("!0*5", 5);
        odds("!2<1", 1);
        odds("5-!0", 4);
        odds("5--2", 7);
    }

    /** "The first LINE without a first E, or whose first E is not 0, counts; none: 0." */
    private static void whichLineCounts() {
        odds("5", 5);
        odds("5;6", 5);
        odds("0;6", 0);
        odds("1?5;6", 5);
        odds("-1?5;6", 5);
        odds("0?5;6", 6);
        odds("0?5;1?6;7", 6);
        odds("0?5;0?6;7", 7);
        odds("0?5;6;1?7", 6);
        odds("1?0;6", 0);
        odds("0?5", 0);
        odds("0?5;0?6;0?7", 0);
        odds("1-1?5;1=1?8;9", 8);
        odds("w?3;4", 3);
        odds("w-9?3;4", 4);
    }

    /** "none: 0", whatever stood in a TEXT that was THE LAW before, or was none. */
    private static void noneOfALongerTextBefore() {
        LotNobodyWants x = scene();
        Check.due("a long text", Check.tell(x, "1;2;3;4;5;6;7;8;9;10;11"), 1);
        Check.due("its first line", x.odds(1), 1);
        Check.due("a short one", Check.tell(x, "0?5"), 1);
        Check.due("none of its lines", x.odds(1), 0);
        Check.due("a fault in a long one", Check.tell(x, "7;7;7;7;7;7;7;7;7;7;7;"), -122);
        Check.due("still none", x.odds(1), 0);
        Check.due("a shorter one", Check.tell(x, "0?6;0?7"), 1);
        Check.due("none of these", x.odds(1), 0);
        Check.due("the shortest", Check.tell(x, "4"), 1);
        Check.due("is all", x.odds(1), 4);
    }

    /** 120 bytes of which each is worked out: all of them count. */
    private static void eachByteIsWorkedOut() {
        odds("!0" + "+0".repeat(58) + "+4", 5);
        odds("-1" + "+0".repeat(58) + "+9", 8);
        odds("0?1;".repeat(29) + "!0+3", 4);
        odds("((((((1))))))" + "*1".repeat(52) + "*6", 6);
    }

    /** "(held within 0 .. 12)" */
    private static void heldWithinTwelve() {
        odds("11", 11);
        odds("12", 12);
        odds("13", 12);
        odds("9999", 12);
        odds("1", 1);
        odds("0", 0);
        odds("-1", 0);
        odds("-9999", 0);
    }

    /** "Without a text: 12, less w, less s." */
    private static void withoutAText() {
        for (int w = 0; w <= 12; w++) {
            for (int s = 0; s <= 9; s++) {
                LotNobodyWants x = Scenes.people(12, w);
                x.ticket(0, 0);
                x.mend(0, 8, s);
                Check.due("w " + w + " s " + s, x.odds(1), Math.max(0, 12 - w - s));
            }
        }
        LotNobodyWants x = scene();
        Check.due("no hour, no folds, no n", x.odds(1), 1);
        Check.due("a fault is no text", Check.tell(x, "7+"), -102);
        Check.due("still without one", x.odds(1), 1);
    }

    /** "w WARY of whom it is slipped to, b WARY of who slips it, n how many TICKETS the one has, f FOLDS, h HOUR, s SEEN" */
    private static void namesInTheOdds() {
        for (int v = 0; v <= 12; v++) {
            LotNobodyWants x = Scenes.people(v, 12 - v);
            x.ticket(0, 0);
            Check.tell(x, "w");
            Check.due("w " + (12 - v), x.odds(1), 12 - v);
            Check.tell(x, "b");
            Check.due("b " + v, x.odds(1), v);
        }
        for (int v = 0; v <= 11; v++) {
            LotNobodyWants x = Scenes.people(1, 1, 1);
            for (int k = 0; k < v; k++) {
                x.ticket(1, k % 2);
                x.mend(k, 6, k % 5);
            }
            x.ticket(0, 0);
            Check.tell(x, "n");
            Check.due("n " + v + ", forged and folded ones, too", x.odds(8 * v + 1), v);
            Check.due("n of one who has none", x.odds(8 * v + 2), 0);
            x.mend(0, 7, v);
            Check.tell(x, "h");
            Check.due("h " + v, x.odds(8 * v + 1), v);
        }
        for (int v = 0; v <= 9; v++) {
            LotNobodyWants x = scene();
            x.mend(0, 8, v);
            Check.tell(x, "s");
            Check.due("s " + v, x.odds(1), v);
            x.mend(0, 6, v % 4);
            Check.tell(x, "f+8");
            Check.due("f " + v % 4, x.odds(1), v % 4 + 8);
        }
    }

    /** "(can't be: 0)", whatever the text gives; "FOLDS is not 4 and the other one is no CHILD". */
    private static void whatCantBeHasNoOdds() {
        String[] texts = {"", "12"};
        for (String text : texts) {
            LotNobodyWants x = Scenes.people(0, 0);
            x.ticket(0, 0);
            x.ticket(0, 1);
            if (!text.isEmpty()) {
                Check.tell(x, text);
            }
            Check.due("it can be", x.odds(1), 12);
            Check.due("a forged one can", x.odds(9), 12);
            Check.due("to its own holder", x.odds(0), 0);
            for (int folds = 0; folds < 5; folds++) {
                x.mend(0, 6, folds);
                Check.due("FOLDS " + folds, x.odds(1), folds == 4 ? 0 : 12);
                Check.due("FOLDS of the other one", x.odds(9), 12);
            }
            x.mend(0, 6, 0);
            x.mend(0, 1, 1);
            Check.due("from a child", x.odds(1), 12);
            x.mend(1, 1, 1);
            Check.due("to a child", x.odds(1), 0);
            x.mend(0, 1, 0);
            x.mend(1, 1, 0);
            Check.due("to one who is no child any more", x.odds(1), 12);
        }
    }

    /** "tp: 8 times the TICKET, and to whom"; BAD. */
    private static void whichSlippingsAre() {
        LotNobodyWants x = Scenes.people(0, 1, 2, 3, 4, 5);
        Scenes.tickets(x, 0, 0, 0, 0, 0, 0, 0, 0, 0, 0, 0, 0);
        for (int tp = -20; tp <= 120; tp++) {
            int want = tp < 0 || tp / 8 > 11 || tp % 8 > 5 ? -1 : tp % 8 == 0 ? 0 : 12 - tp % 8;
            Check.due("odds(" + tp + ")", x.odds(tp), want);
        }
        Check.due("odds(least)", x.odds(Integer.MIN_VALUE), -1);
        Check.due("odds(greatest)", x.odds(Integer.MAX_VALUE), -1);
        LotNobodyWants y = Scenes.people(0, 1);
        y.ticket(0, 0);
        for (int tp = 0; tp <= 40; tp++) {
            Check.due("of one ticket, odds(" + tp + ")", y.odds(tp), tp == 0 ? 0 : tp == 1 ? 11 : -1);
        }
    }
}
