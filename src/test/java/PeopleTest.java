/** Promises 1 to 9: people, tickets, the law and its odds. */
public final class PeopleTest {
    public static void main(String[] args) {
        newObject();
        person();
        ticket();
        tickets();
        mend();
        of();
        feed();
        lawReads();
        lawIsStuck();
        lawAndTape();
        oddsWithoutText();
        oddsByText();
        oddsByNames();
        Check.finish();
    }

    private static void newObject() {
        LotNobodyWants x = new LotNobodyWants();
        for (int what = 0; what < 6; what++) {
            Check.due("new count " + what, x.count(what), 0);
        }
        for (int what = 0; what < 4; what++) {
            Check.due("new led " + what, x.led(what), 0);
        }
        for (int shelf = 0; shelf < 6; shelf++) {
            Check.due("new taken " + shelf, x.taken(shelf, 0), -11);
        }
        Check.due("new HOUR", x.of(0, 7), 0);
        Check.due("new SEEN", x.of(0, 8), 0);
        Check.due("new back", x.back(), LotNobodyWants.STATE);
        Check.due("VOID", LotNobodyWants.VOID, -2000000000);
    }

    private static void person() {
        LotNobodyWants x = new LotNobodyWants();
        Check.due("person(-1)", x.person(-1), -1);
        Check.due("person(13)", x.person(13), -1);
        int[] wary = {0, 12, 5, 6, 7, 8};
        for (int one = 0; one < 6; one++) {
            Check.due("person " + one, x.person(wary[one]), one);
            Check.due("WARY " + one, x.of(one, 0), wary[one]);
            Check.due("CHILD " + one, x.of(one, 1), 0);
            Check.due("PRICE " + one, x.of(one, 2), 10);
            Check.due("TAKES " + one, x.of(one, 3), 0);
        }
        Check.due("a seventh", x.person(3), -3);
        Check.due("a seventh too wary", x.person(13), -1);
        Check.due("people", x.count(0), 6);
    }

    private static void ticket() {
        LotNobodyWants x = new LotNobodyWants();
        Check.due("ticket of nobody", x.ticket(0, 0), -1);
        x.person(3);
        Check.due("ticket(-1, 0)", x.ticket(-1, 0), -1);
        Check.due("ticket(0, 2)", x.ticket(0, 2), -1);
        Check.due("ticket(0, -1)", x.ticket(0, -1), -1);
        for (int k = 0; k < 12; k++) {
            Check.due("ticket " + k, x.ticket(0, k % 2), k);
            Check.due("HOLDER " + k, x.of(k, 4), 0);
            Check.due("FORGED " + k, x.of(k, 5), k % 2);
            Check.due("FOLDS " + k, x.of(k, 6), 0);
        }
        Check.due("a thirteenth", x.ticket(0, 0), -3);
        Check.due("a thirteenth of nobody", x.ticket(1, 0), -1);
        Check.due("tickets", x.count(1), 12);
    }

    private static void tickets() {
        LotNobodyWants x = new LotNobodyWants();
        x.person(3);
        x.person(3);
        Check.due("a missing row", x.tickets(0, 0, 1), 0);
        Check.bytes(x, 0, 9, 1, 1, 4, 0, 0, 2, 1);
        Check.due("from 1, two and a part", x.tickets(0, 1, 3), 2);
        Check.due("HOLDER 0", x.of(0, 4), 1);
        Check.due("FORGED 0", x.of(0, 5), 1);
        Check.due("FOLDS 0", x.of(0, 6), 4);
        Check.due("HOLDER 1", x.of(1, 4), 0);
        Check.due("FOLDS 1", x.of(1, 6), 2);
        Check.due("from 1, just one", x.tickets(0, 1, 1), 1);
        Check.due("from nobody", x.tickets(0, 0, 1), 0);
        Check.bytes(x, 5, 1, 0, 3);
        Check.due("to the row's end", x.tickets(5, 0, 2), 1);
        Check.due("FOLDS at its end", x.of(3, 6), 3);
        Check.due("behind the row", x.tickets(0, 8, 1), 0);
        Check.due("far behind", x.tickets(0, Integer.MAX_VALUE, 12), 0);
        Check.due("below 0", x.tickets(0, -1, 1), 0);
        Check.due("n 0", x.tickets(0, 1, 0), -1);
        Check.due("n 13", x.tickets(0, 1, 13), -1);
        Check.due("shelf -1", x.tickets(-1, 0, 1), -1);
        Check.due("shelf 6", x.tickets(6, 0, 1), -1);
        Check.bytes(x, 1, 0, 2, 0, 0, 0, 5, 0, 0, -1, -1, 0, 0);
        for (int at = 0; at < 12; at += 3) {
            Check.due("a three that may not be, at " + at, x.tickets(1, at, 1), 0);
        }
        x.row(2, 1, 3);
        Check.due("shorts", x.tickets(2, 0, 1), -12);
        x.body(0);
        x.keep(2, 0);
        Check.due("a body", x.tickets(2, 0, 1), -12);
        x.row(3, 0, 60);
        Check.due("until FULL", x.tickets(3, 0, 12), 8);
        Check.due("FULL", x.tickets(3, 0, 12), 0);
        Check.due("all", x.count(1), 12);
    }

    private static void mend() {
        LotNobodyWants x = new LotNobodyWants();
        int[] most = {12, 1, 99, 9, 1, 1, 4, 11, 9};
        int[] first = {6, 0, 10, 0, 0, 0, 0, 0, 0};
        x.person(6);
        x.person(6);
        x.ticket(0, 0);
        x.ticket(0, 0);
        for (int what = 0; what < 9; what++) {
            int number = what < 7 ? 1 : 0;
            String call = "mend " + what;
            Check.due(call + " below 0", x.mend(number, what, -1), -1);
            Check.due(call + " above", x.mend(number, what, most[what] + 1), -1);
            Check.due(call + " beside", x.mend(number + 1, what, 1), -1);
            Check.due(call + " number -1", x.mend(-1, what, 1), -1);
            Check.due(call + " to the most", x.mend(number, what, most[what]), first[what]);
            Check.due(call + " is", x.of(number, what), most[what]);
            Check.due(call + " to 0", x.mend(number, what, 0), most[what]);
            Check.due(call + " is 0", x.of(number, what), 0);
        }
        Check.due("no such what", x.mend(0, 9, 0), -1);
        Check.due("what -1", x.mend(0, -1, 0), -1);
    }

    private static void of() {
        LotNobodyWants x = new LotNobodyWants();
        x.person(6);
        x.person(7);
        x.ticket(1, 0);
        x.ticket(1, 1);
        x.ticket(1, 0);
        Check.due("has", x.of(1, 9), 3);
        Check.due("has real", x.of(1, 10), 2);
        Check.due("has none", x.of(0, 9), 0);
        Check.due("nobody has", x.of(2, 9), -1);
        Check.due("nobody has real", x.of(-1, 10), -1);
        Check.due("nobody is wary", x.of(2, 0), -1);
        Check.due("no ticket", x.of(3, 4), -1);
        Check.due("HOUR 1", x.of(1, 7), -1);
        Check.due("what 11", x.of(0, 11), -1);
        Check.due("what -1", x.of(0, -1), -1);
    }

    private static void feed() {
        LotNobodyWants x = new LotNobodyWants();
        Check.due("feed(-1)", x.feed(-1), -1);
        Check.due("feed(256)", x.feed(256), -1);
        Check.due("feed(0)", x.feed(0), 1);
        for (int k = 2; k <= 120; k++) {
            Check.due("feed " + k, x.feed(255), k);
        }
        Check.due("a byte too many", x.feed(49), -3);
        Check.due("a bad one too many", x.feed(256), -1);
        Check.due("on the tape", x.count(2), 120);
    }

    private static void lawReads() {
        String[] texts = {
            "1", "0000", "9999", "w+b-n*f/h%s", "1<2", "1=2", "1>2", "1<2&3<4|5=6", "1?2", "1?2;3", "!!!!!!1?!!!!!!1;!!!!!!1", "1;2;3",
            "!!!!!!1", "------1", "((((((1))))))", "!-(!-(1))", "(1)+(1)", "-1--1", "!1=!1", "1|1|1&1&1", "(1<2)<3"
        };
        for (String text : texts) {
            Check.due("law " + text, Check.tell(new LotNobodyWants(), text), 1);
        }
        StringBuilder longest = new StringBuilder("1");
        while (longest.length() < 119) {
            longest.append("+1");
        }
        Check.due("law of 119", Check.tell(new LotNobodyWants(), longest.toString()), 1);
        Check.due("law of 120", Check.tell(new LotNobodyWants(), longest + "1"), 1);
    }

    private static void lawIsStuck() {
        Object[][] texts = {
            {"", 0}, {"+", 0}, {"1 ", 1}, {" 1", 0}, {"12345", 4}, {"1+", 2}, {"1<2<3", 3}, {"1<2=3", 3}, {"1&2<3<4", 5},
            {"1?2?3", 3}, {"(1?2)", 2}, {"1;", 2}, {";1", 0}, {"1;;1", 2}, {"1?;1", 2}, {"(1", 2}, {"1)", 1}, {"((1)))", 5},
            {"!!!!!!!1", 6}, {"-------1", 6}, {"(((((((1", 6}, {"!-(!-((1", 6}, {"!!!!!!(1)", 6}, {"1!", 1}, {"1w", 1},
            {"ww", 1}, {"x", 0}, {"1*/2", 2}, {"W", 0}, {"1||2", 2}, {"()", 1}, {"1?", 2}, {"1?!!!!!!!1", 8}, {"1;!!!!!!!1", 8}, {"1?(2", 4}, {"1+2&", 4}
        };
        for (Object[] text : texts) {
            Check.due("law " + text[0], Check.tell(new LotNobodyWants(), (String) text[0]), -100 - (int) text[1]);
        }
        LotNobodyWants x = new LotNobodyWants();
        x.feed(49);
        x.feed(255);
        Check.due("a byte above ASCII", x.law(), -101);
    }

    private static void lawAndTape() {
        LotNobodyWants x = scene();
        Check.due("law 7", Check.tell(x, "7"), 1);
        Check.due("empty tape", x.count(2), 0);
        Check.due("a stuck one", Check.tell(x, "8+"), -102);
        Check.due("emptied all the same", x.count(2), 0);
        Check.due("the law ahead of it stays", x.odds(1), 7);
        Check.due("law 3", Check.tell(x, "3"), 1);
        Check.due("the later one", x.odds(1), 3);
        Check.due("law of nothing", x.law(), -100);
        Check.due("stays", x.odds(1), 3);
    }

    /** WARY 4, 9, 5; 0 has tickets 0 and 1, 1 has 2 (forged) and 3, 2 has none. */
    private static LotNobodyWants scene() {
        LotNobodyWants x = new LotNobodyWants();
        x.person(4);
        x.person(9);
        x.person(5);
        x.ticket(0, 0);
        x.ticket(0, 0);
        x.ticket(1, 1);
        x.ticket(1, 0);
        return x;
    }

    private static void oddsWithoutText() {
        LotNobodyWants x = scene();
        Check.due("odds(1)", x.odds(1), 3);
        Check.due("odds(2)", x.odds(2), 7);
        Check.due("odds(0), to its holder", x.odds(0), 0);
        Check.due("odds(3), to nobody", x.odds(3), -1);
        Check.due("odds(32), no ticket", x.odds(32), -1);
        Check.due("odds(-1)", x.odds(-1), -1);
        Check.due("odds(-8)", x.odds(-8), -1);
        Check.due("odds(least)", x.odds(Integer.MIN_VALUE), -1);
        Check.due("odds(24)", x.odds(24), 8);
        x.mend(0, 8, 2);
        Check.due("seen by two", x.odds(2), 5);
        x.mend(0, 8, 9);
        Check.due("never below 0", x.odds(1), 0);
        x.mend(0, 8, 0);
        x.mend(2, 1, 1);
        Check.due("to a child", x.odds(2), 0);
        x.mend(0, 1, 1);
        Check.due("from a child", x.odds(1), 3);
        x.mend(0, 6, 3);
        Check.due("three folds", x.odds(1), 3);
        x.mend(0, 6, 4);
        Check.due("four folds", x.odds(1), 0);
    }

    private static void oddsByText() {
        int wraps = 9999 * 9999 * 9999 % 12;
        Object[][] texts = {
            {"13", 12}, {"-1", 0}, {"12", 12}, {"10", 10}, {"0010", 10}, {"1000/100", 10}, {"7/2", 3}, {"-7/2+5", 2}, {"-7%3+5", 4}, {"5/0+1", 1}, {"5%0+1", 1},
            {"3|0", 1}, {"0|0", 0}, {"3&2", 1}, {"3&0", 0}, {"!5", 0}, {"!0", 1}, {"!!7", 1}, {"2+3*2", 8}, {"(2+1)*3", 9},
            {"9-3-2", 4}, {"8/2/2", 2}, {"1<2", 1}, {"2<1", 0}, {"2=2", 1}, {"2>1", 1}, {"2>2", 0}, {"2<2", 0}, {"1=2", 0}, {"1>2", 0}, {"1+1=2&5", 1},
            {"0?5;7", 7}, {"1?5;7", 5}, {"0?5", 0}, {"0?5;0?6", 0}, {"0?5;3?6;7", 6}, {"4;5", 4}, {"-3?8;9", 8}, {"0-0?1;2", 2},
            {"9999*9999*9999%12", Math.max(0, wraps)}, {"0*(1/0)+2", 2}, {"-2*-3", 6}, {"!1+1", 1}, {"1|0&0", 1}, {"(1|0)&0", 0}
        };
        for (Object[] text : texts) {
            LotNobodyWants x = scene();
            Check.tell(x, (String) text[0]);
            Check.due("odds by " + text[0], x.odds(1), (int) text[1]);
            Check.due("what can't be, by " + text[0], x.odds(0), 0);
        }
    }

    private static void oddsByNames() {
        LotNobodyWants x = scene();
        x.mend(0, 6, 3);
        x.mend(0, 7, 11);
        x.mend(0, 8, 1);
        String names = "wbnfhs";
        int[] to1 = {9, 4, 2, 3, 11, 1};
        int[] to2 = {5, 4, 0, 3, 11, 1};
        for (int k = 0; k < 6; k++) {
            Check.tell(x, names.substring(k, k + 1));
            Check.due("name " + names.charAt(k) + " to 1", x.odds(1), to1[k]);
            Check.due("name " + names.charAt(k) + " to 2", x.odds(2), to2[k]);
        }
        Check.tell(x, "b");
        Check.due("from 1 to 2", x.odds(26), 9);
    }
}
