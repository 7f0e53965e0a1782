/** Promises 18 and 19, RID in part 2 of the Terms and what ALSO says of it: each sentence that names an edge, on its own. */
public final class EdgesRidTest {
    private static final long NONE = Long.MIN_VALUE;

    public static void main(String[] args) {
        hoursThreeAtMost();
        whoMayAsk();
        noRealOne();
        hasNoneHimself();
        realOnesAlone();
        whatCantGo();
        whomHeLikes();
        fromHourOn();
        elevenAgain();
        whatCameCounts();
        foldsOfEach();
        orNone();
        lowestTerms();
        firstOfLikeOnes();
        firstNot();
        firstIsThatOfTheBest();
        twelveTicketsThreeHours();
        Check.finish();
    }

    private static void rid(String call, LotNobodyWants x, int one, int t, long above, long below) {
        Check.due(call, x.rid(one, t, 0), x.rid(one, t, 1), above, below);
    }

    private static LotNobodyWants byLaw(LotNobodyWants x, String text) {
        Check.due("law " + text, Check.tell(x, text), 1);
        return x;
    }

    /** 0 and 1, and all TICKETS with 0. */
    private static LotNobodyWants two(int tickets) {
        LotNobodyWants x = Scenes.people(6, 6);
        for (int k = 0; k < tickets; k++) {
            x.ticket(0, 0);
        }
        return x;
    }

    /** "t hours (0 .. 3)" */
    private static void hoursThreeAtMost() {
        LotNobodyWants x = two(1);
        Check.due("rid t -1", x.rid(0, -1, 0), NONE);
        Check.due("first t -1", x.first(0, -1), -1);
        rid("no hour", x, 0, 0, 0, 1);
        rid("an hour", x, 0, 1, 1, 2);
        rid("two hours", x, 0, 2, 3, 4);
        rid("three hours", x, 0, 3, 7, 8);
        Check.due("rid t 4", x.rid(0, 4, 0), NONE);
        Check.due("rid t 4 below the line", x.rid(0, 4, 1), NONE);
        Check.due("first t 4", x.first(0, 4), -1);
        Check.due("first t 0", x.first(0, 0), -2);
        for (int t = 1; t <= 3; t++) {
            Check.due("first t " + t, x.first(0, t), 1);
        }
        Check.due("HOUR stays", x.of(0, 7), 0);
        Check.due("HOLDER stays", x.of(0, 4), 0);
    }

    /** "Long.MIN_VALUE: BAD"; "BAD; NOT" */
    private static void whoMayAsk() {
        LotNobodyWants x = two(1);
        int[] nobody = {Integer.MIN_VALUE, -1, 2, Integer.MAX_VALUE};
        for (int one : nobody) {
            Check.due("rid of " + one, x.rid(one, 1, 0), NONE);
            Check.due("first of " + one, x.first(one, 1), -1);
            Check.due("part " + one, x.rid(0, 1, one), NONE);
        }
        rid("the last one", x, 1, 1, 1, 1);
        Check.due("the last one needs none", x.first(1, 1), -2);
        x.mend(0, 1, 1);
        rid("a child may slip", x, 0, 1, 1, 2);
    }

    /** "no real one at all: 1 by 1" */
    private static void noRealOne() {
        LotNobodyWants x = two(0);
        for (int t = 0; t <= 3; t++) {
            rid("no ticket, t " + t, x, 0, t, 1, 1);
            Check.due("no ticket, first t " + t, x.first(0, t), -2);
        }
        x.ticket(0, 1);
        for (int t = 0; t <= 3; t++) {
            rid("a forged one, t " + t, x, 0, t, 1, 1);
            Check.due("a forged one, first t " + t, x.first(0, t), -2);
        }
    }

    /** "none needed: NOT" */
    private static void hasNoneHimself() {
        LotNobodyWants x = two(2);
        x.ticket(1, 1);
        for (int t = 0; t <= 3; t++) {
            rid("free from the start, t " + t, x, 1, t, 1, 1);
            Check.due("nothing to slip, t " + t, x.first(1, t), -2);
        }
    }

    /** "one real TICKET of his"; "A forged one is not slipped so." */
    private static void realOnesAlone() {
        LotNobodyWants x = Scenes.people(0, 0);
        x.ticket(0, 1);
        x.ticket(1, 0);
        rid("forged ones of his alone", x, 0, 3, 1, 1);
        x.ticket(0, 0);
        rid("one of two real ones", x, 0, 0, 1, 2);
        rid("it goes", x, 0, 1, 1, 1);
        Check.due("the real one, not the forged one", x.first(0, 1), 17);
        Check.due("of another one the other", x.first(1, 1), 8);
    }

    /** FOLDS 4 stay, a CHILD is given none, nobody gives to himself. */
    private static void whatCantGo() {
        LotNobodyWants x = two(2);
        x.mend(1, 0, 0);
        x.mend(0, 6, 4);
        rid("one is folded", x, 0, 3, 1, 2);
        Check.due("the other one goes", x.first(0, 1), 9);
        x.mend(1, 6, 4);
        rid("both are folded", x, 0, 3, 0, 1);
        Check.due("none can go", x.first(0, 3), -2);
        x.mend(1, 6, 3);
        x.mend(1, 1, 1);
        rid("on a child none", x, 0, 3, 0, 1);
        Check.due("none on a child", x.first(0, 3), -2);
        LotNobodyWants alone = Scenes.people(0);
        alone.ticket(0, 0);
        rid("alone", alone, 0, 3, 0, 1);
        Check.due("on himself none", alone.first(0, 3), -2);
    }

    /** "that he likes on whom he likes" */
    private static void whomHeLikes() {
        LotNobodyWants x = Scenes.people(0, 9, 4, 9, 4, 5);
        x.ticket(0, 0);
        rid("on the least wary", x, 0, 1, 2, 3);
        Check.due("of two like ones the least", x.first(0, 1), 2);
        x.mend(5, 0, 3);
        rid("on the last one", x, 0, 1, 3, 4);
        Check.due("the last one", x.first(0, 1), 5);
        x.mend(0, 4, 1);
        rid("on the first one", x, 1, 1, 1, 1);
        Check.due("the first one", x.first(1, 1), 0);
        rid("on the first one in two hours", x, 1, 2, 1, 1);
        LotNobodyWants y = Scenes.people(9, 9, 9, 9, 9, 0);
        for (int k = 0; k < 11; k++) {
            y.ticket(5, 0);
        }
        y.ticket(4, 0);
        rid("the last ticket but those", y, 4, 1, 1, 1);
        Check.due("the last ticket on the last one", y.first(4, 1), 93);
    }

    /** "from HOUR on": the first hour is HOUR, the next 1 more. */
    private static void fromHourOn() {
        LotNobodyWants x = byLaw(two(1), "h=5?12;h=7?6;0");
        int[] above = {0, 0, 0, 1, 1, 1, 1, 1, 0, 0, 0, 0};
        int[] below = {1, 1, 1, 1, 1, 1, 2, 2, 1, 1, 1, 1};
        for (int hour = 0; hour < 12; hour++) {
            x.mend(0, 7, hour);
            rid("three hours from " + hour, x, 0, 3, above[hour], below[hour]);
        }
        for (int t = 1; t <= 3; t++) {
            x.mend(0, 7, 6 - t);
            rid("in the last hour of " + t, x, 0, t, 1, 1);
            x.mend(0, 7, 5 - t);
            rid("an hour too early, " + t, x, 0, t, 0, 1);
            Check.due("HOUR stays, " + t, x.of(0, 7), 5 - t);
        }
    }

    /** "(11 at most: behind it HOUR 11 again)" */
    private static void elevenAgain() {
        LotNobodyWants x = byLaw(two(1), "h=11?6;0");
        int[] hours = {8, 9, 10, 11};
        int[][] above = {{0, 0, 0, 0}, {0, 0, 0, 1}, {0, 0, 1, 3}, {0, 1, 3, 7}};
        int[][] below = {{1, 1, 1, 1}, {1, 1, 1, 2}, {1, 1, 2, 4}, {1, 2, 4, 8}};
        for (int k = 0; k < 4; k++) {
            x.mend(0, 7, hours[k]);
            for (int t = 0; t <= 3; t++) {
                rid("from " + hours[k] + ", t " + t, x, 0, t, above[k][t], below[k][t]);
            }
        }
        byLaw(x, "h=0?12;0");
        x.mend(0, 7, 11);
        rid("never 0 again", x, 0, 3, 0, 1);
        byLaw(x, "h>11?12;0");
        rid("never 12", x, 0, 3, 0, 1);
    }

    /** n is how many the other one has then. */
    private static void whatCameCounts() {
        LotNobodyWants x = byLaw(two(3), "n=0?12;n=1?6;n=2?3;0");
        rid("none", x, 0, 0, 0, 1);
        rid("one", x, 0, 1, 1, 3);
        rid("then at six", x, 0, 2, 1, 2);
        // The third goes at 3 behind two that went, at 6 behind one: (2 + 1/4) / 2 + (1 + 1/2) / 2, of 3.
        rid("then at three", x, 0, 3, 5, 8);
        x.person(6);
        rid("another one takes a second", x, 0, 2, 2, 3);
        x.person(6);
        rid("and a third", x, 0, 3, 1, 1);
        LotNobodyWants y = byLaw(two(2), "n=1?12;0");
        rid("one who has none", y, 0, 3, 0, 1);
        y.ticket(1, 1);
        rid("one who has a forged one", y, 0, 3, 1, 2);
    }

    /** f is what each TICKET has; FOLDS stay. */
    private static void foldsOfEach() {
        LotNobodyWants x = byLaw(two(4), "f*3");
        for (int k = 0; k < 4; k++) {
            x.mend(k, 6, k);
        }
        rid("the one of three folds", x, 0, 1, 3, 16);
        Check.due("is slipped first", x.first(0, 1), 25);
        x.mend(3, 6, 4);
        rid("then the one of two", x, 0, 1, 1, 8);
        Check.due("goes first", x.first(0, 1), 17);
        byLaw(x, "f=0?12;0");
        Check.due("the unfolded one", x.first(0, 1), 1);
        x.mend(0, 6, 1);
        Check.due("there is none", x.first(0, 1), -2);
    }

    /** "or none: if he does his best" */
    private static void orNone() {
        // In the first hour 0 could slip at 1 of twelve, and then no other: better to wait.
        LotNobodyWants x = byLaw(two(2), "h=0?1;n=0?12;0");
        rid("to wait", x, 0, 2, 1, 2);
        Check.due("is the best", x.first(0, 2), -2);
        rid("one hour alone", x, 0, 1, 1, 24);
        Check.due("then there is nothing to wait for", x.first(0, 1), 1);
        byLaw(x, "0");
        rid("never", x, 0, 3, 0, 1);
        Check.due("none is as good as any", x.first(0, 3), -2);
        byLaw(x, "h=2?12;0");
        rid("in the third hour alone", x, 0, 3, 1, 2);
        Check.due("none in the first", x.first(0, 3), -2);
        rid("not by the second", x, 0, 2, 0, 1);
        // As good now as an hour later, as each takes but one: not needed.
        byLaw(x, "n=0?12;0");
        rid("once", x, 0, 2, 1, 2);
        Check.due("as good later", x.first(0, 2), -2);
        Check.due("in the last hour it is needed", x.first(0, 1), 1);
    }

    /** "a fraction": in lowest terms. */
    private static void lowestTerms() {
        LotNobodyWants x = byLaw(two(1), "1");
        rid("one of twelve", x, 0, 1, 1, 12);
        rid("twice", x, 0, 2, 23, 144);
        rid("three times", x, 0, 3, 397, 1728);
        byLaw(x, "12");
        rid("surely", x, 0, 1, 1, 1);
        rid("surely, in three hours", x, 0, 3, 1, 1);
        LotNobodyWants y = byLaw(two(12), "1");
        rid("of twelve", y, 0, 1, 1, 144);
        rid("of twelve, twice", y, 0, 2, 1, 72);
        rid("of twelve, three times", y, 0, 3, 1, 48);
        byLaw(y, "11");
        rid("of twelve at eleven", y, 0, 3, 11, 48);
    }

    /** "8 times the TICKET, and to whom (of like ones the least ..)" */
    private static void firstOfLikeOnes() {
        LotNobodyWants x = Scenes.people(6, 6, 6);
        Scenes.tickets(x, 1, 2, 1, 1);
        Check.due("the least ticket, on the least one", x.first(1, 1), 0);
        Check.due("of 2", x.first(2, 1), 8);
        x.mend(0, 4, 0);
        Check.due("without the first", x.first(1, 1), 16);
        Check.due("0's on 1", x.first(0, 1), 1);
        x.mend(2, 6, 3);
        Check.due("folds make no odds: still the least", x.first(1, 1), 16);
        x.mend(2, 6, 0);
        x.mend(3, 6, 2);
        Check.due("nor here", x.first(1, 3), 16);
        x.mend(0, 0, 7);
        Check.due("0 is warier", x.first(1, 1), 18);
        x.mend(0, 1, 1);
        x.mend(2, 1, 1);
        Check.due("both are children", x.first(1, 1), -2);
        byLaw(x, "f=0?3;f=2?9;1");
        x.mend(2, 1, 0);
        Check.due("the later ticket is better", x.first(1, 1), 26);
    }

    /** "THE FIRST: NOT, if none in the first hour is as good as any" */
    private static void firstNot() {
        LotNobodyWants x = byLaw(two(1), "h=0?6;12");
        // At 6 now and surely later, or surely later alone: as good.
        Check.due("as good without the first", x.first(0, 2), -2);
        Check.due("without a later one", x.first(0, 1), 1);
        byLaw(x, "h=0?6;11");
        Check.due("not as good", x.first(0, 2), 1);
        byLaw(x, "h=0?0;12");
        Check.due("it can't go well in the first", x.first(0, 2), -2);
        LotNobodyWants y = byLaw(two(2), "h=0?6;12");
        Check.due("two, and one later hour", y.first(0, 2), 1);
        Check.due("two, and two later hours", y.first(0, 3), -2);
    }

    /** "THE FIRST of it": of the best of all hours, not of the best odds in the first. */
    private static void firstIsThatOfTheBest() {
        // On 1 at 9 of twelve in the first hour alone; on 2 at 8 then and at 8 later.
        LotNobodyWants x = byLaw(Scenes.people(6, 1, 2), "w=2?8;h=0?9;0");
        x.ticket(0, 0);
        Check.due("best in one hour", x.first(0, 1), 1);
        Check.due("best in two: on 1, then on 2", x.first(0, 2), 1);
        rid("by both", x, 0, 2, 11, 12);
        // n: 2 takes one alone, at any hour; 1 takes one in the first hour alone.
        LotNobodyWants y = byLaw(Scenes.people(6, 1, 2), "n>0?0;w=2?12;h=0?11;0");
        Scenes.tickets(y, 0, 0);
        Check.due("surely on 2 now", y.first(0, 1), 2);
        Check.due("first on 1, as 2 takes one later", y.first(0, 2), 1);
        rid("both at best", y, 0, 2, 23, 24);
    }

    /** The longest thought: twelve TICKETS of all FOLDS, five others, three hours. */
    private static void twelveTicketsThreeHours() {
        LotNobodyWants x = Scenes.people(6, 1, 2, 3, 4, 5);
        for (int k = 0; k < 12; k++) {
            x.ticket(0, 0);
            x.mend(k, 6, k % 4);
        }
        byLaw(x, "n>0?0;12-w-f");
        // On 1 at 11 of twelve until it went, then on 2 at 10, then on 3 at 9; in 1728ths of one:
        // 11 * (144 + 10 * (12 + 9) + 2 * 10) + 11 * (12 + 10) + 11 = 4367, of twelve.
        rid("up to three of twelve", x, 0, 3, 4367, 20736);
        Check.due("the first of them", x.first(0, 3), 1);
    }
}
