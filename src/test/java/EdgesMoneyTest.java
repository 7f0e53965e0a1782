/** Promises 20 to 25, part 3 and the first half of part 4 of the Terms: each sentence that names an edge, on its own. */
public final class EdgesMoneyTest {
    public static void main(String[] args) {
        hireOfNoneToTwelve();
        hireTakesAtMost();
        hirePriceEach();
        hireLastOne();
        hireWhoIsNone();
        hireWhatStays();
        friendByTwelfths();
        friendFromOthers();
        friendOfNoReals();
        shareCut();
        halfOrMore();
        halfOfLikeOnes();
        Check.finish();
    }

    private static LotNobodyWants takers(int[] prices, int[] takes) {
        LotNobodyWants x = new LotNobodyWants();
        for (int one = 0; one < prices.length; one++) {
            x.person(6);
            x.mend(one, 2, prices[one]);
            x.mend(one, 3, takes[one]);
        }
        return x;
    }

    private static void give(LotNobodyWants x, int holder, int tickets) {
        for (int k = 0; k < tickets; k++) {
            x.ticket(holder, 0);
        }
    }

    private static void hire(String call, LotNobodyWants x, int one, int k, int money, int last) {
        Check.due(call + ": money", x.hire(one, k, 0), money);
        Check.due(call + ": the last", x.hire(one, k, 1), last);
    }

    // ---- HIRE

    /** "rid of k (0 .. 12) of his TICKETS"; "(1; k 0: NOT)"; "he hasn't so many that can go" */
    private static void hireOfNoneToTwelve() {
        for (int tickets = 0; tickets <= 12; tickets++) {
            LotNobodyWants x = takers(new int[] {1, 2, 3}, new int[] {9, 9, 9});
            give(x, 0, tickets);
            for (int k = 0; k <= 12; k++) {
                int money = k <= 9 ? 2 * k : 18 + 3 * (k - 9);
                int last = k == 0 ? -2 : k <= 9 ? 1 : 2;
                hire(k + " of " + tickets, x, 0, k, k <= tickets ? money : -2, k <= tickets ? last : -2);
            }
            Check.due("k -1 of " + tickets, x.hire(0, -1, 0), -1);
            Check.due("k 13 of " + tickets, x.hire(0, 13, 0), -1);
        }
    }

    /** "each of the others (no CHILD) takes TAKES at most"; "or nobody takes them" */
    private static void hireTakesAtMost() {
        for (int takes = 0; takes <= 9; takes++) {
            LotNobodyWants x = takers(new int[] {5, 10}, new int[] {9, takes});
            give(x, 0, 12);
            hire("as many as he takes, " + takes, x, 0, takes, 10 * takes, takes == 0 ? -2 : 1);
            hire("one more than he takes, " + takes, x, 0, takes + 1, -2, -2);
            hire("his own TAKES don't count, " + takes, x, 0, 12, -2, -2);
        }
        LotNobodyWants three = takers(new int[] {5, 10, 20}, new int[] {9, 9, 3});
        give(three, 0, 12);
        hire("all that both take", three, 0, 12, 150, 2);
        three.mend(2, 3, 2);
        hire("one too many for both", three, 0, 12, -2, -2);
        hire("all but one", three, 0, 11, 130, 2);
    }

    /** "for PRICE each": 0 .. 99 */
    private static void hirePriceEach() {
        LotNobodyWants x = takers(new int[] {7, 0, 99}, new int[] {9, 2, 9});
        give(x, 0, 11);
        hire("two for nothing", x, 0, 2, 0, 1);
        hire("the third for 99", x, 0, 3, 99, 2);
        hire("nine for 99", x, 0, 11, 891, 2);
        x.mend(2, 2, 98);
        hire("the third for 98", x, 0, 3, 98, 2);
        x.mend(1, 2, 99);
        hire("two for 98", x, 0, 2, 196, 2);
        hire("ten", x, 0, 10, 9 * 98 + 99, 1);
        hire("eleven", x, 0, 11, 9 * 98 + 2 * 99, 1);
    }

    /** "to whom the last one goes (of like prices the least number first)": the dearest of these k, by PRICE, then number. */
    private static void hireLastOne() {
        LotNobodyWants x = takers(new int[] {3, 3, 0, 3, 2, 3}, new int[] {2, 2, 0, 2, 1, 2});
        give(x, 2, 12);
        int[] last = {-2, 4, 0, 0, 1, 1, 3, 3, 5, 5, -2};
        int[] money = {0, 2, 5, 8, 11, 14, 17, 20, 23, 26, -2};
        for (int k = 0; k <= 10; k++) {
            hire("like prices, " + k, x, 2, k, money[k], last[k]);
        }
        LotNobodyWants y = takers(new int[] {50, 40, 30, 20, 10, 5}, new int[] {1, 1, 1, 1, 1, 1});
        give(y, 5, 12);
        int[] sums = {0, 10, 30, 60, 100, 150};
        for (int k = 1; k <= 5; k++) {
            hire("the cheapest first, " + k, y, 5, k, sums[k], 5 - k);
        }
        hire("the sixth is himself", y, 5, 6, -2, -2);
    }

    /** "the others (no CHILD)" */
    private static void hireWhoIsNone() {
        LotNobodyWants x = takers(new int[] {1, 2, 3}, new int[] {9, 9, 9});
        give(x, 0, 3);
        x.mend(1, 1, 1);
        hire("a child takes none", x, 0, 1, 3, 2);
        x.mend(2, 1, 1);
        hire("nor another", x, 0, 1, -2, -2);
        hire("none at all is free all the same", x, 0, 0, 0, -2);
        x.mend(2, 1, 0);
        x.mend(0, 1, 1);
        hire("a child may hire", x, 0, 3, 9, 2);
        LotNobodyWants alone = takers(new int[] {1}, new int[] {9});
        give(alone, 0, 1);
        hire("alone", alone, 0, 1, -2, -2);
        hire("alone, none", alone, 0, 0, 0, -2);
    }

    /** "(FOLDS 4 stay)"; "HIRE: FORGED ones, too" */
    private static void hireWhatStays() {
        LotNobodyWants x = takers(new int[] {1, 2}, new int[] {9, 9});
        x.ticket(0, 1);
        x.ticket(0, 0);
        x.ticket(1, 0);
        hire("a forged one and a real one", x, 0, 2, 4, 1);
        x.mend(0, 6, 3);
        hire("three folds go", x, 0, 2, 4, 1);
        x.mend(0, 6, 4);
        hire("four folds stay", x, 0, 2, -2, -2);
        hire("the other one goes", x, 0, 1, 2, 1);
        x.mend(1, 6, 4);
        hire("both stay", x, 0, 1, -2, -2);
        hire("none needs to go", x, 0, 0, 0, -2);
        hire("another one's is his", x, 1, 1, 1, 0);
    }

    // ---- FRIEND

    /** "at least, so that he is king by x (0 .. 12) of twelve or more" */
    private static void friendByTwelfths() {
        for (int reals = 1; reals <= 12; reals++) {
            for (int has = 0; has <= reals; has++) {
                LotNobodyWants x = Scenes.people(6, 6);
                give(x, 1, has);
                give(x, 0, reals - has);
                for (int k = 0; k <= 12; k++) {
                    int needed = 0;
                    while (12 * (has + needed) < k * reals) {
                        needed++;
                    }
                    Check.due("by " + k + " with " + has + " of " + reals, x.friend(1, k), needed);
                }
                Check.due("by -1", x.friend(1, -1), -1);
                Check.due("by 13", x.friend(1, 13), -1);
            }
        }
    }

    /** "come to one from others (FOLDS 4 stay)"; "NOT: not by all that can"; "to a CHILD none can come" */
    private static void friendFromOthers() {
        LotNobodyWants x = Scenes.people(6, 6, 6);
        Scenes.tickets(x, 0, 0, 1, 2);
        x.ticket(0, 1);
        Check.due("all three others", x.friend(1, 12), 3);
        x.mend(0, 6, 3);
        Check.due("three folds come", x.friend(1, 12), 3);
        x.mend(0, 6, 4);
        Check.due("four folds stay: not all", x.friend(1, 12), -2);
        Check.due("just by all that can", x.friend(1, 9), 2);
        Check.due("by one more not", x.friend(1, 10), -2);
        x.mend(2, 6, 4);
        Check.due("his own folded one is his", x.friend(1, 9), 2);
        Check.due("he has a quarter", x.friend(1, 3), 0);
        Check.due("a forged one doesn't help", x.friend(2, 9), -2);
        x.mend(1, 1, 1);
        Check.due("a child has a quarter", x.friend(1, 3), 0);
        Check.due("no more comes to a child", x.friend(1, 4), -2);
        Check.due("from a child it may", x.friend(0, 9), 1);
        x.mend(2, 6, 0);
        Check.due("also the child's own", x.friend(0, 12), 2);
        for (int own = 0; own < 12; own++) {
            LotNobodyWants y = Scenes.people(6, 6);
            for (int k = 0; k < 12; k++) {
                y.ticket(k == own ? 1 : 0, 0);
                y.mend(k, 6, k == own ? 0 : 4);
            }
            Check.due("his own doesn't come to him, " + own, y.friend(1, 2), -2);
            Check.due("it is his already, " + own, y.friend(1, 1), 0);
        }
    }

    /** "no real one: 0 for x 0, else NOT" */
    private static void friendOfNoReals() {
        LotNobodyWants x = Scenes.people(6, 6);
        for (int k = 0; k <= 12; k++) {
            Check.due("without tickets, by " + k, x.friend(0, k), k == 0 ? 0 : -2);
        }
        x.ticket(1, 1);
        for (int k = 0; k <= 12; k++) {
            Check.due("with a forged one, by " + k, x.friend(0, k), k == 0 ? 0 : -2);
        }
        x.mend(0, 1, 1);
        Check.due("a child, by 0", x.friend(0, 0), 0);
        Check.due("a child, by 1", x.friend(0, 1), -2);
    }

    // ---- SHARE, HALF

    /** "a king's year costs v (0 .. 9999) .. v by how likely he is (cut)" */
    private static void shareCut() {
        for (int reals = 1; reals <= 12; reals++) {
            LotNobodyWants x = Scenes.people(6, 6);
            give(x, 0, 1);
            give(x, 1, reals - 1);
            int[] values = {0, 1, reals - 1, reals, 2 * reals - 1, 9998, 9999};
            for (int v : values) {
                Check.due("share of " + v + ", one of " + reals, x.share(0, v), v / reals);
                Check.due("share of " + v + ", the others of " + reals, x.share(1, v), v * (reals - 1) / reals);
            }
            Check.due("of -1", x.share(0, -1), -1);
            Check.due("of 10000", x.share(0, 10000), -1);
        }
        LotNobodyWants y = Scenes.people(6, 6);
        Check.due("without tickets", y.share(0, 9999), 0);
        y.ticket(0, 1);
        Check.due("with a forged one", y.share(0, 9999), 0);
        y.ticket(1, 0);
        Check.due("the king himself", y.share(1, 9999), 9999);
        Check.due("the other one", y.share(0, 9999), 0);
        Check.due("nobody", y.share(2, 0), -1);
        Check.due("nobody, -1", y.share(-1, 0), -1);
    }

    private static LotNobodyWants holders(int... reals) {
        LotNobodyWants x = new LotNobodyWants();
        for (int one = 0; one < reals.length; one++) {
            x.person(6);
            give(x, one, reals[one]);
        }
        return x;
    }

    /** "the fewest PEOPLE who hold half of all real ones or more together: who (bits ..); NOT: there are none" */
    private static void halfOrMore() {
        Check.due("nobody", holders().half(), -2);
        Check.due("no tickets", holders(0, 0).half(), -2);
        LotNobodyWants forged = holders(0, 0);
        forged.ticket(1, 1);
        Check.due("a forged one", forged.half(), -2);
        forged.ticket(0, 0);
        Check.due("the only real one", forged.half(), 1);
        Check.due("just half", holders(3, 4, 5).half(), 3);
        Check.due("just half by one", holders(3, 3, 6).half(), 4);
        Check.due("one below half is not enough", holders(5, 4, 3).half(), 3);
        Check.due("half goes ahead of it", holders(5, 6, 1).half(), 2);
        Check.due("half of eleven is six", holders(3, 3, 5).half(), 3);
        Check.due("six of eleven", holders(3, 2, 6).half(), 4);
        Check.due("five of ten", holders(0, 5, 5).half(), 2);
        Check.due("six, two each", holders(2, 2, 2, 2, 2, 2).half(), 7);
        Check.due("all with the last one", holders(0, 0, 0, 0, 0, 12).half(), 32);
        LotNobodyWants x = holders(1, 1, 1);
        x.mend(0, 6, 4);
        x.mend(0, 1, 1);
        Check.due("folded ones and a child's count", x.half(), 3);
    }

    /** "of like ones the least": by few first, then by bits. */
    private static void halfOfLikeOnes() {
        Check.due("one of two", holders(1, 1).half(), 1);
        Check.due("the later one has more", holders(1, 1, 3, 1).half(), 4);
        Check.due("two, not the three of less bits", holders(1, 1, 1, 2, 2).half(), 24);
        Check.due("the least two of three", holders(1, 1, 1).half(), 3);
        Check.due("0 and 3", holders(1, 1, 0, 2, 1, 1).half(), 9);
        Check.due("0 and 1", holders(2, 1, 0, 1, 1, 1).half(), 3);
        Check.due("of one, the least", holders(0, 0, 4, 4).half(), 4);
    }
}
