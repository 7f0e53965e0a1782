/** Promises 20 to 25: money, friends, what stands behind an eve, years drawn. */
public final class MoneyTest {
    public static void main(String[] args) {
        hire();
        friend();
        share();
        half();
        behind();
        behindByOdds();
        behindRefusals();
        drawn();
        drawnOneByOne();
        Check.finish();
    }

    private static LotNobodyWants people(int... wary) {
        LotNobodyWants x = new LotNobodyWants();
        for (int w : wary) {
            x.person(w);
        }
        return x;
    }

    private static void hire() {
        LotNobodyWants x = people(6, 6, 6, 6, 6);
        int[] prices = {1, 7, 3, 7, 2};
        int[] takes = {9, 1, 2, 9, 9};
        for (int one = 0; one < 5; one++) {
            x.mend(one, 2, prices[one]);
            x.mend(one, 3, takes[one]);
        }
        x.mend(4, 1, 1);
        for (int k = 0; k < 7; k++) {
            x.ticket(0, k % 2);
        }
        x.mend(6, 6, 4);
        int[] money = {0, 3, 6, 13, 20, 27, 34, -2};
        int[] last = {-2, 2, 2, 1, 3, 3, 3, -2};
        for (int k = 0; k < 8; k++) {
            Check.due("hire " + k, x.hire(0, k, 0), money[k]);
            Check.due("hire last " + k, x.hire(0, k, 1), last[k]);
        }
        x.mend(3, 3, 0);
        Check.due("nobody takes a fourth", x.hire(0, 4, 0), -2);
        Check.due("who has none", x.hire(1, 1, 0), -2);
        Check.due("who has none, none", x.hire(1, 0, 0), 0);
        Check.due("nobody", x.hire(5, 0, 0), -1);
        Check.due("k 13", x.hire(0, 13, 0), -1);
        Check.due("k -1", x.hire(0, -1, 0), -1);
        Check.due("what 2", x.hire(0, 1, 2), -1);
        Check.due("what -1", x.hire(0, 1, -1), -1);
        x.mend(2, 2, 99);
        x.mend(1, 2, 0);
        Check.due("for nothing, and dearest", x.hire(0, 3, 0), 198);
        Check.due("the dearest gets the last", x.hire(0, 3, 1), 2);
        LotNobodyWants y = people(6, 6, 6);
        for (int k = 0; k < 12; k++) {
            y.ticket(2, 0);
        }
        y.mend(0, 3, 5);
        y.mend(1, 3, 9);
        Check.due("all twelve", y.hire(2, 12, 0), 120);
        Check.due("all twelve, the last", y.hire(2, 12, 1), 1);
        Check.due("five of like prices", y.hire(2, 5, 1), 0);
        Check.due("six of like prices", y.hire(2, 6, 1), 1);
    }

    private static void friend() {
        LotNobodyWants x = people(6, 6, 6);
        int[] holders = {0, 0, 0, 1, 2};
        for (int one : holders) {
            x.ticket(one, 0);
        }
        x.ticket(2, 1);
        // 1 has one of five: 12 * (1 + m) >= 5 * x.
        int[] due = {0, 0, 0, 1, 1, 2, 2, 2, 3, 3, 4, 4, 4};
        for (int k = 0; k <= 12; k++) {
            Check.due("friend 1 by " + k, x.friend(1, k), due[k]);
        }
        x.mend(0, 6, 4);
        Check.due("a folded one stays", x.friend(1, 12), -2);
        Check.due("three come", x.friend(1, 9), 3);
        x.mend(1, 1, 1);
        Check.due("to a child none", x.friend(1, 3), -2);
        Check.due("a child needs none", x.friend(1, 2), 0);
        Check.due("nobody", x.friend(3, 0), -1);
        Check.due("x 13", x.friend(0, 13), -1);
        Check.due("x -1", x.friend(0, -1), -1);
        LotNobodyWants y = people(6);
        y.ticket(0, 1);
        Check.due("no real one, 0", y.friend(0, 0), 0);
        Check.due("no real one, 1", y.friend(0, 1), -2);
    }

    private static void share() {
        LotNobodyWants x = people(6, 6);
        x.ticket(0, 0);
        x.ticket(0, 0);
        x.ticket(1, 0);
        x.ticket(1, 1);
        Check.due("two thirds", x.share(0, 100), 66);
        Check.due("a third", x.share(1, 100), 33);
        Check.due("of 9999", x.share(0, 9999), 6666);
        Check.due("of 0", x.share(0, 0), 0);
        Check.due("of 10000", x.share(0, 10000), -1);
        Check.due("of -1", x.share(0, -1), -1);
        Check.due("nobody's", x.share(2, 0), -1);
        LotNobodyWants y = people(6);
        Check.due("without tickets", y.share(0, 9999), 0);
    }

    private static void half() {
        LotNobodyWants x = people(6, 6, 6, 6);
        Check.due("without tickets", x.half(), -2);
        x.ticket(3, 1);
        Check.due("without real ones", x.half(), -2);
        for (int one = 0; one < 4; one++) {
            x.ticket(one, 0);
        }
        Check.due("two of four", x.half(), 3);
        LotNobodyWants six = people(6, 6, 6, 6, 6, 6);
        for (int one = 0; one < 6; one++) {
            six.ticket(one, 0);
        }
        Check.due("three of six", six.half(), 7);
        six.mend(0, 6, 4);
        Check.due("a folded one is one", six.friend(1, 12), -2);
        Check.due("all others", six.friend(0, 12), 5);
        x.ticket(2, 0);
        Check.due("2 has two of five: with 0", x.half(), 5);
        x.ticket(2, 0);
        Check.due("2 has three of six", x.half(), 4);
        x.mend(1, 4, 3);
        x.mend(2, 4, 3);
        Check.due("3 has as many: the least", x.half(), 4);
        Check.due("without people", new LotNobodyWants().half(), -2);
    }

    private static void behind() {
        LotNobodyWants x = people(6, 6, 6);
        x.ticket(0, 0);
        x.ticket(0, 0);
        // 0 to 1, 0 to 2, 1 to 1, 0 to 2 again.
        Check.bytes(x, 0, 1, 2, 9, 2);
        Check.bytes(x, 1, 2);
        Check.due("0 with 2: ways", x.behind(0, 1, 0), 8);
        Check.due("the fewest", x.behind(0, 1, 1), 1);
        Check.due("by which", x.behind(0, 1, 2), 2);
        Check.due("certain", x.behind(0, 1, 3), 0);
        Check.bytes(x, 1, 1, 1);
        Check.due("both with 1: ways", x.behind(0, 1, 0), 1);
        Check.due("the fewest then", x.behind(0, 1, 1), 2);
        Check.due("by which then", x.behind(0, 1, 2), 5);
        Check.due("certain then", x.behind(0, 1, 3), 5);
        Check.bytes(x, 1, -1, 1);
        Check.due("any, and 1: ways", x.behind(0, 1, 0), 6);
        Check.due("certain there", x.behind(0, 1, 3), 4);
        x.row(1, 0, 0);
        Check.due("all ways", x.behind(0, 1, 0), 12);
        Check.due("none went well", x.behind(0, 1, 1), 0);
        Check.due("none", x.behind(0, 1, 2), 0);
        Check.bytes(x, 1, -1, -1, 2, 2, 2);
        Check.due("of tickets that are not, nothing", x.behind(0, 1, 0), 12);
        int[] never = {-2, 3, 127};
        for (int told : never) {
            Check.bytes(x, 1, told);
            int[] due = {0, -2, -2, 0, -2};
            for (int what = 0; what < 5; what++) {
                Check.due("told " + told + ", what " + what, x.behind(0, 1, what), due[what]);
            }
        }
        Check.due("in deed all stays", x.of(0, 4), 0);
    }

    private static void behindByOdds() {
        LotNobodyWants x = people(6, 6, 2, 12);
        x.ticket(0, 0);
        Check.bytes(x, 0, 1, 2, 3);
        Check.bytes(x, 1, 2);
        Check.due("on 2 is likely; on 1, then 2, as much: the least", x.behind(0, 1, 4), 2);
        x.mend(1, 0, 5);
        Check.due("by 1 is likelier now", x.behind(0, 1, 4), 3);
        Check.bytes(x, 1, 3);
        Check.due("ways with odds 0", x.behind(0, 1, 0), 4);
        Check.due("but none is likely", x.behind(0, 1, 4), -2);
        // What is left out takes no odds: twice on 1 (7 of 12), or staying with 0 twice (5 of 12 each).
        Check.bytes(x, 0, 1, 1);
        x.row(1, 0, 0);
        Check.due("left out at no cost", x.behind(0, 1, 4), 1);
        x.mend(1, 0, 9);
        Check.due("odds 3: neither", x.behind(0, 1, 4), 0);
        x.mend(1, 0, 6);
        Check.due("one half, or a half of it: the first", x.behind(0, 1, 4), 1);
        // Two of like odds: either alone is as likely, the least bits go first.
        LotNobodyWants y = people(6, 6, 6);
        y.ticket(0, 0);
        y.ticket(0, 0);
        Check.bytes(y, 0, 1, 9);
        y.row(1, 0, 0);
        Check.due("all four ways are alike", y.behind(0, 1, 4), 0);
        Check.bytes(y, 1, 1, 0);
        Check.due("just the first", y.behind(0, 1, 4), 1);
        Check.bytes(y, 0, 2, 1, 2, 1);
        Check.bytes(y, 1, 1);
        Check.due("the fewest of several: the least", y.behind(0, 1, 2), 2);
        Check.bytes(y, 0, 1, 2, 2, 1, 0, 2);
        Check.bytes(y, 1, 2);
        Check.due("one of three", y.behind(0, 1, 2), 2);
        // To 1 by 0, 0 by 1, 1 by 0: the first or the third alone; two never do.
        Check.bytes(y, 0, 8, 1, 0, 1);
        Check.bytes(y, 1, 1);
        Check.due("the second or the fourth", y.behind(0, 1, 2), 2);
        Check.due("ways of them", y.behind(0, 1, 0), 3);
        Check.bytes(y, 0, 2, 1, 2, 1);
        y.mend(1, 0, 4);
        Check.due("odds 8 are taken at once", y.behind(0, 1, 4), 2);
    }

    private static void behindRefusals() {
        LotNobodyWants x = people(6);
        x.row(0, 0, 0);
        x.row(1, 1, 0);
        Check.due("shelf 6", x.behind(6, 0, 0), -1);
        Check.due("told on -1", x.behind(0, -1, 0), -1);
        Check.due("what 5", x.behind(0, 0, 5), -1);
        Check.due("what -1", x.behind(2, 0, -1), -1);
        Check.due("nothing there", x.behind(2, 0, 0), -11);
        Check.due("nothing told", x.behind(0, 2, 0), -11);
        Check.due("shorts, and nothing told", x.behind(1, 2, 0), -11);
        Check.due("nothing, and told in shorts", x.behind(2, 1, 0), -11);
        Check.due("shorts", x.behind(1, 0, 0), -12);
        Check.due("told in shorts", x.behind(0, 1, 0), -12);
        Check.due("the same row is both", x.behind(0, 0, 0), 1);
    }

    private static void drawn() {
        LotNobodyWants x = people(0, 0);
        x.ticket(0, 0);
        Check.due("n 0", x.drawn(1, 1, 0), -1);
        Check.due("n 31", x.drawn(1, 3101, 0), -1);
        Check.due("m 0", x.drawn(1, 100, 0), -1);
        Check.due("m 31", x.drawn(1, 131, 0), -1);
        Check.due("below 0", x.drawn(1, -101, 0), -1);
        Check.due("nobody", x.drawn(1, 101, 2), -1);
        Check.due("one -2", x.drawn(1, 101, -2), -1);
        Check.due("a year of one", x.drawn(1, 101, 0) + x.drawn(1, 101, 1), 1);
        Check.due("who is king in 30 years", x.drawn(99, 3030, 0) + x.drawn(99, 3030, 1), 30);
        Check.due("in deed all stays", x.of(0, 4), 0);
        x.mend(0, 5, 1);
        Check.due("no real one", x.drawn(99, 3030, 0), 0);
        Check.due("forged ones go too", x.drawn(99, 3030, -1) > 0 ? 1 : 0, 1);
        Check.due("without tickets", people(3).drawn(5, 303, 0), 0);
        Check.due("without anybody", new LotNobodyWants().drawn(5, 303, -1), 0);
    }

    /** z by hand: each year begins as all stands now; the SEED goes on from year to year. */
    private static void drawnOneByOne() {
        LotNobodyWants x = people(3, 5, 4);
        int[] holders = {0, 1, 2, 0};
        for (int k = 0; k < 4; k++) {
            x.ticket(holders[k], k == 1 ? 1 : 0);
        }
        int[] wary = {3, 5, 4};
        int[] reals = {0, 2, 3};
        int[] kings = new int[3];
        int wells = 0;
        int z = -77;
        for (int year = 0; year < 12; year++) {
            int[] h = holders.clone();
            for (int k = 0; k < 9; k++) {
                z = z * 1103515245 + 12345;
                int ticket = (z >>> 8) % 4;
                int to = (z >>> 12) % 3;
                if (h[ticket] != to && (z >>> 20) % 12 < 12 - wary[to]) {
                    h[ticket] = to;
                    wells++;
                }
            }
            z = z * 1103515245 + 12345;
            kings[h[reals[(z >>> 8) % 3]]]++;
        }
        for (int one = 0; one < 3; one++) {
            Check.due("drawn king " + one, x.drawn(-77, 1209, one), kings[one]);
        }
        Check.due("drawn wells", x.drawn(-77, 1209, -1), wells);
    }
}
