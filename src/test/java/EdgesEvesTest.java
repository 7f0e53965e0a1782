/** Promises 10 to 19 and part 2 of the Terms: each sentence that names an edge, on its own. */
public final class EdgesEvesTest {
    private static final long NONE = Long.MIN_VALUE;

    public static void main(String[] args) {
        twelveAtMost();
        itEndsWith();
        rowsOfEachSize();
        leftOut();
        wellFromSixOn();
        behindItsFirstN();
        hourStays();
        realOnesOfOne();
        likelyASet();
        bitsBeyondTheEve();
        smallestFractions();
        allThatCan();
        refusedRows();
        kingByReals();
        safeWho();
        likeliestOfLikeOnes();
        watchByOdds();
        watchOfLikeOnes();
        watchNot();
        Check.finish();
    }

    /** 0 has TICKET 0, odds to all others are as told. */
    private static LotNobodyWants oneTicket(int... wary) {
        LotNobodyWants x = Scenes.people(wary);
        x.ticket(0, 0);
        return x;
    }

    private static void fraction(String call, long above, long below, long wantAbove, long wantBelow) {
        Check.due(call, above, below, wantAbove, wantBelow);
    }

    // ---- an EVE

    /** "(12 at most ..)": what stands behind the twelfth is not read. */
    private static void twelveAtMost() {
        LotNobodyWants x = oneTicket(0, 0, 0);
        for (int size = 11; size <= 14; size++) {
            x.row(0, 0, size);
            for (int k = 0; k < size; k++) {
                x.put(0, k, k % 2 == 0 ? 1 : 0);
            }
            Check.due("wells of " + size, x.eve(0, 12, -1), Math.min(12, size));
            Check.due("holder of " + size, x.later(0, 12, 0), size == 11 ? 1 : 0);
        }
        x.row(0, 0, 60);
        Check.due("sixty to their own holder: twelve are left out", x.eve(0, 12, -2), 4095);
        x.put(0, 11, 1);
        Check.due("the twelfth goes", x.later(0, 12, 0), 1);
        x.put(0, 11, 0);
        x.put(0, 12, 1);
        Check.due("the thirteenth does not", x.later(0, 12, 0), 0);
        fraction("likely without the thirteenth", x.likely(0, 0, 0), x.likely(0, 0, 1), 1, 1);
        Check.bytes(x, 1, 1);
        Check.due("no way by the thirteenth", x.behind(0, 1, 0), 0);
        x.put(0, 11, 1);
        Check.due("a way by the twelfth", x.behind(0, 1, 0), 1);
        Check.due("the twelfth's bit", x.behind(0, 1, 3), 2048);
    }

    /** ".. it ends with what is no TICKET, nobody, or below 0" */
    private static void itEndsWith() {
        int[] ends = {3, 7, 8, 9, 15, 96, 127, -1, -8, -128};
        for (int end : ends) {
            LotNobodyWants x = oneTicket(0, 0, 0);
            Check.bytes(x, 0, 1, end, 2, 1);
            Check.due("behind " + end + ", nothing", x.later(0, 12, 0), 1);
            Check.due("wells ahead of " + end, x.eve(0, 12, -1), 1);
            Check.due("left out with " + end, x.eve(0, 12, -2), 0);
            fraction("just the one ahead of " + end, x.likely(0, 1, 0), x.likely(0, 1, 1), 1, 1);
            fraction("a bit at " + end, x.likely(0, 2, 0), x.likely(0, 2, 1), 0, 1);
            fraction("all ahead of " + end, x.all(0, 0), x.all(0, 1), 1, 1);
            x.put(0, 0, end);
            Check.due("at once with " + end, x.later(0, 12, 0), 0);
            x.row(1, 0, 0);
            Check.due("one way, without any, at " + end, x.behind(0, 1, 0), 1);
        }
        LotNobodyWants full = Scenes.people(0, 0, 0, 0, 0, 0);
        Scenes.tickets(full, 0, 0, 0, 0, 0, 0, 0, 0, 0, 0, 0, 0);
        Check.bytes(full, 0, 93, 94, 85);
        Check.due("the last ticket on the last one is one", full.later(0, 12, 11), 5);
        Check.due("94 is to nobody", full.later(0, 12, 10), 0);
    }

    /** A ROW of bytes of any size is an EVE. */
    private static void rowsOfEachSize() {
        LotNobodyWants x = oneTicket(0, 6);
        int[] sizes = {0, 1, 12, 13, 60};
        for (int size : sizes) {
            x.row(0, 0, size);
            int kept = Math.min(12, size);
            Check.due("wells in " + size, x.eve(0, 12, -1), 0);
            Check.due("left out of " + size, x.eve(0, 12, -2), (1 << kept) - 1);
            fraction("none goes well of " + size, x.likely(0, 0, 0), x.likely(0, 0, 1), 1, 1);
            fraction("all that can of " + size, x.all(0, 0), x.all(0, 1), 1, 1);
            Check.due("holder behind " + size, x.later(0, 12, 0), 0);
        }
    }

    /** "One that can't be as its turn comes (to its own HOLDER, too) is left out." */
    private static void leftOut() {
        LotNobodyWants x = Scenes.people(0, 0, 0);
        Scenes.tickets(x, 0, 0, 1);
        x.mend(1, 6, 4);
        x.mend(2, 1, 1);
        // To its own; well; then to its own; folded; to a child; back; of 1, to its own.
        Check.bytes(x, 0, 0, 1, 1, 9, 2, 0, 17);
        Check.due("which", x.eve(0, 12, -2), 1 + 4 + 8 + 16 + 64);
        Check.due("how many went well", x.eve(0, 12, -1), 2);
        x.mend(2, 1, 0);
        Check.due("no child any more", x.eve(0, 12, -2), 1 + 4 + 8 + 64);
        x.mend(1, 6, 3);
        Check.due("three folds", x.eve(0, 12, -2), 1 + 4 + 64);
        Check.tell(x, "0");
        Check.due("odds 0 are not left out; its own is", x.eve(0, 12, -2), 1 + 32 + 64);
        Check.due("none goes well by them", x.eve(0, 12, -1), 0);
    }

    // ---- in thought

    /** "WELL (all go well whose odds are 6 of twelve or more, others not)" */
    private static void wellFromSixOn() {
        for (int odds = 0; odds <= 12; odds++) {
            LotNobodyWants x = oneTicket(0, 12 - odds);
            Check.bytes(x, 0, 1);
            Check.due("odds", x.odds(1), odds);
            Check.due("wells by odds " + odds, x.eve(0, 1, -1), odds >= 6 ? 1 : 0);
            Check.due("holder by odds " + odds, x.later(0, 1, 0), odds >= 6 ? 1 : 0);
            Check.due("reals by odds " + odds, x.eve(0, 1, 1), odds >= 6 ? 1 : 0);
            Check.due("not left out by odds " + odds, x.eve(0, 1, -2), 0);
        }
    }

    /** "n 0 .. 12": behind the first n of it; more than it has are all. */
    private static void behindItsFirstN() {
        LotNobodyWants x = oneTicket(0, 0, 0);
        Check.bytes(x, 0, 1, 2, 2, 0, 1);
        int[] holder = {0, 1, 2, 2, 0, 1};
        int[] wells = {0, 1, 2, 2, 3, 4};
        for (int n = 0; n <= 12; n++) {
            int k = Math.min(n, 5);
            Check.due("holder behind " + n, x.later(0, n, 0), holder[k]);
            Check.due("wells of " + n, x.eve(0, n, -1), wells[k]);
            Check.due("left out of " + n, x.eve(0, n, -2), k < 3 ? 0 : 4);
            for (int one = 0; one < 3; one++) {
                Check.due("real ones of " + one + " behind " + n, x.eve(0, n, one), one == holder[k] ? 1 : 0);
            }
        }
        Check.due("n -1", x.later(0, -1, 0), -1);
        Check.due("n 13", x.later(0, 13, 0), -1);
        Check.due("eve n -1", x.eve(0, -1, 0), -1);
        Check.due("eve n 13", x.eve(0, 13, 0), -1);
        x.row(0, 0, 12);
        for (int k = 0; k < 12; k++) {
            x.put(0, k, k % 2 == 0 ? 1 : 0);
        }
        Check.due("eleven of twelve", x.later(0, 11, 0), 1);
        Check.due("twelve of twelve", x.later(0, 12, 0), 0);
        Check.due("wells of eleven", x.eve(0, 11, -1), 11);
        Check.due("wells of twelve", x.eve(0, 12, -1), 12);
    }

    /** "IN THOUGHT, from now (HOUR stays)" */
    private static void hourStays() {
        LotNobodyWants x = oneTicket(0, 0);
        Check.bytes(x, 0, 1, 0, 1, 0, 1, 0, 1, 0, 1, 0, 1, 0);
        Check.bytes(x, 1, 0);
        Check.tell(x, "h");
        int[] hours = {0, 5, 6, 11};
        for (int hour : hours) {
            x.mend(0, 7, hour);
            Check.due("wells at " + hour, x.eve(0, 12, -1), hour < 6 ? 0 : 12);
            Check.due("HOUR stays " + hour, x.of(0, 7), hour);
        }
        fraction("all at eleven", x.all(0, 0), x.all(0, 1), 3138428376721L, 8916100448256L);
        x.mend(0, 7, 6);
        fraction("all at six", x.all(0, 0), x.all(0, 1), 1, 4096);
    }

    /** "how many TICKETS of one are not FORGED then" */
    private static void realOnesOfOne() {
        LotNobodyWants x = Scenes.people(0, 0);
        for (int k = 0; k < 12; k++) {
            x.ticket(0, k % 4 == 0 ? 1 : 0);
        }
        x.mend(1, 6, 4);
        Check.bytes(x, 0, 1, 9, 17, 25, 33);
        int[] real0 = {9, 9, 9, 8, 7, 7};
        for (int n = 0; n <= 5; n++) {
            Check.due("of 0 behind " + n, x.eve(0, n, 0), real0[n]);
            Check.due("of 1 behind " + n, x.eve(0, n, 1), 9 - real0[n]);
        }
    }

    /** "that just a told set (bits) of its SLIPPINGS goes well, none else (one left out counts as one that does not)" */
    private static void likelyASet() {
        LotNobodyWants x = Scenes.people(0, 9, 4);
        Scenes.tickets(x, 0);
        // odds 3 to 1, then 8 to 2; from 2 back to 1 at 3.
        Check.bytes(x, 0, 1, 2, 1);
        // 000: 9/12 * 4/12 * 9/12; 001: 3/12 * 4/12, the third is left out; 010: 9/12 * 8/12 * 9/12;
        // 011: 3/12 * 8/12 * 9/12; 100: 9/12 * 4/12 * 3/12; 101: left out; 110: 9/12 * 8/12 * 3/12; 111: 3/12 * 8/12 * 3/12.
        long[] above = {3, 1, 3, 1, 1, 0, 1, 1};
        long[] below = {16, 12, 8, 8, 16, 1, 8, 24};
        for (int set = 0; set < 8; set++) {
            fraction("set " + set, x.likely(0, set, 0), x.likely(0, set, 1), above[set], below[set]);
        }
        x.mend(2, 1, 1);
        fraction("2 is a child: its bit", x.likely(0, 2, 0), x.likely(0, 2, 1), 0, 1);
        fraction("2 is a child: without it", x.likely(0, 1, 0), x.likely(0, 1, 1), 1, 4);
        LotNobodyWants y = oneTicket(0, 12, 0);
        Check.bytes(y, 0, 1, 2);
        fraction("odds 0 never go well", y.likely(0, 1, 0), y.likely(0, 1, 1), 0, 1);
        fraction("odds 0 surely fail, odds 12 go well", y.likely(0, 2, 0), y.likely(0, 2, 1), 1, 1);
        fraction("odds 12 never fail", y.likely(0, 0, 0), y.likely(0, 0, 1), 0, 1);
    }

    /** "(0 .. 4095; bits beyond the EVE: 0 by 1)" */
    private static void bitsBeyondTheEve() {
        for (int size = 0; size <= 12; size++) {
            LotNobodyWants x = oneTicket(0, 6);
            x.row(0, 0, size);
            for (int k = 0; k < 12; k++) {
                fraction("bit " + k + " of " + size, x.likely(0, 1 << k, 0), x.likely(0, 1 << k, 1), 0, 1);
            }
            fraction("none of " + size, x.likely(0, 0, 0), x.likely(0, 0, 1), 1, 1);
            Check.due("set -1 of " + size, x.likely(0, -1, 0), NONE);
            Check.due("set 4096 of " + size, x.likely(0, 4096, 0), NONE);
            fraction("set 4095 of " + size, x.likely(0, 4095, 0), x.likely(0, 4095, 1), 0, 1);
        }
        LotNobodyWants y = oneTicket(6, 6);
        Check.bytes(y, 0, 1, 0, 1, 0, 1, 0, 1, 0, 1, 0, 1, 0);
        fraction("all twelve bits", y.likely(0, 4095, 0), y.likely(0, 4095, 1), 1, 4096);
        y.row(0, 0, 11);
        y.put(0, 0, 1);
        fraction("the last bit that is", y.likely(0, 1, 0), y.likely(0, 1, 1), 1, 2048);
        fraction("the next bit", y.likely(0, 2048, 0), y.likely(0, 2048, 1), 0, 1);
    }

    /** "All fractions are in lowest terms": the longest one, too. */
    private static void smallestFractions() {
        LotNobodyWants x = oneTicket(0, 0);
        Check.bytes(x, 0, 1, 0, 1, 0, 1, 0, 1, 0, 1, 0, 1, 0);
        Check.tell(x, "11");
        fraction("eleven of twelve, twelve times", x.likely(0, 4095, 0), x.likely(0, 4095, 1), 3138428376721L, 8916100448256L);
        Check.tell(x, "1");
        fraction("one of twelve, twelve times", x.all(0, 0), x.all(0, 1), 1, 8916100448256L);
        Check.tell(x, "12");
        fraction("twelve of twelve", x.all(0, 0), x.all(0, 1), 1, 1);
        Check.tell(x, "10");
        fraction("ten of twelve", x.all(0, 0), x.all(0, 1), 244140625L, 2176782336L);
        Check.tell(x, "0");
        fraction("none of twelve", x.all(0, 0), x.all(0, 1), 0, 1);
    }

    /** "ALL of them that can: how likely all go well." */
    private static void allThatCan() {
        LotNobodyWants x = Scenes.people(0, 4, 6);
        Scenes.tickets(x, 0, 0);
        // To 1 (8 of 12), to 1 again (left out), then from 1 to 2 (6), the other one to 1 (8).
        Check.bytes(x, 0, 1, 1, 2, 9);
        fraction("all", x.all(0, 0), x.all(0, 1), 2, 9);
        x.mend(1, 6, 4);
        fraction("but the folded one", x.all(0, 0), x.all(0, 1), 1, 3);
        x.mend(1, 1, 1);
        fraction("1 is a child: to 2 alone", x.all(0, 0), x.all(0, 1), 1, 2);
        x.mend(2, 1, 1);
        fraction("none can", x.all(0, 0), x.all(0, 1), 1, 1);
        x.row(0, 0, 0);
        fraction("none is told", x.all(0, 0), x.all(0, 1), 1, 1);
        // n counts what came in thought.
        LotNobodyWants y = Scenes.people(0, 0);
        Scenes.tickets(y, 0, 0, 0);
        Check.tell(y, "12-n*3");
        Check.bytes(y, 0, 1, 9, 17);
        fraction("n goes up", y.all(0, 0), y.all(0, 1), 3, 8);
    }

    /** "Long.MIN_VALUE: BAD, no ROW of bytes"; "-11, -12" */
    private static void refusedRows() {
        LotNobodyWants x = oneTicket(0, 0);
        x.body(0);
        for (int sort = -2; sort < 5; sort++) {
            if (sort == -1) {
                x.keep(1, 0);
            } else if (sort >= 0) {
                x.row(1, sort, 1);
            }
            int want = sort == -2 ? -11 : sort == 0 ? 0 : -12;
            Check.due("later on sort " + sort, x.later(1, 0, 0), want);
            Check.due("eve on sort " + sort, x.eve(1, 0, -1), want);
            Check.due("likely on sort " + sort, x.likely(1, 0, 0), sort == 0 ? 1 : NONE);
            Check.due("all on sort " + sort, x.all(1, 0), sort == 0 ? 1 : NONE);
            Check.due("behind on sort " + sort, x.behind(1, 1, 1), want);
        }
        for (int shelf = 0; shelf < 6; shelf++) {
            x.row(shelf, 0, 0);
            Check.due("later on shelf " + shelf, x.later(shelf, 0, 0), 0);
            Check.due("likely on shelf " + shelf, x.likely(shelf, 0, 1), 1);
        }
    }

    // ---- who is king

    /** "KING: how likely one is (no real TICKET: 0 by 1)." */
    private static void kingByReals() {
        LotNobodyWants x = Scenes.people(6, 6);
        fraction("without tickets", x.king(0, 0), x.king(0, 1), 0, 1);
        x.ticket(0, 1);
        fraction("a forged one", x.king(0, 0), x.king(0, 1), 0, 1);
        x.ticket(0, 0);
        fraction("the only real one", x.king(0, 0), x.king(0, 1), 1, 1);
        fraction("the other one has none", x.king(1, 0), x.king(1, 1), 0, 1);
        for (int k = 2; k < 12; k++) {
            x.ticket(1, 0);
            fraction("one of " + k, x.king(0, 0), x.king(0, 1), 1, k);
        }
        fraction("ten of eleven", x.king(1, 0), x.king(1, 1), 10, 11);
        x.mend(0, 5, 0);
        fraction("two of twelve", x.king(0, 0), x.king(0, 1), 1, 6);
        x.mend(0, 6, 4);
        x.mend(0, 1, 1);
        fraction("folded ones and a child's count", x.king(0, 0), x.king(0, 1), 1, 6);
        Check.due("part -1", x.king(0, -1), NONE);
        Check.due("part 2", x.king(0, 2), NONE);
        Check.due("one -1", x.king(-1, 0), NONE);
        Check.due("one 2", x.king(2, 0), NONE);
    }

    /** "SAFE: who (bits) holds no real one." */
    private static void safeWho() {
        LotNobodyWants x = new LotNobodyWants();
        Check.due("nobody", x.safe(), 0);
        for (int one = 0; one < 6; one++) {
            x.person(6);
            Check.due("all are, " + one, x.safe(), (2 << one) - 1);
        }
        for (int one = 0; one < 6; one++) {
            x.ticket(one, 1);
            Check.due("a forged one leaves " + one + " safe", x.safe(), 63 - ((1 << one) - 1));
            x.ticket(one, 0);
            Check.due("a real one does not", x.safe(), 63 - ((2 << one) - 1));
        }
        x.mend(1, 6, 4);
        x.mend(2, 1, 1);
        Check.due("folded four times, or a child", x.safe(), 0);
    }

    /** "THE LIKELIEST king (of like ones the least; NOT)" */
    private static void likeliestOfLikeOnes() {
        LotNobodyWants x = Scenes.people(6, 6, 6, 6, 6, 6);
        Check.due("none real", x.likeliest(), -2);
        x.ticket(1, 1);
        Check.due("forged ones alone", x.likeliest(), -2);
        x.ticket(5, 0);
        Check.due("the last one", x.likeliest(), 5);
        x.ticket(3, 0);
        Check.due("of two like ones the least", x.likeliest(), 3);
        x.ticket(4, 0);
        Check.due("of three like ones the least", x.likeliest(), 3);
        x.ticket(4, 0);
        Check.due("two go ahead of one", x.likeliest(), 4);
        x.ticket(0, 0);
        Check.due("one is not enough", x.likeliest(), 4);
        x.ticket(0, 1);
        Check.due("forged ones don't count", x.likeliest(), 4);
        x.ticket(0, 0);
        Check.due("two each: the least", x.likeliest(), 0);
        x.mend(0, 1, 1);
        Check.due("a child may be", x.likeliest(), 0);
    }

    // ---- whom one should watch

    /** "whose odds to slip on a told one are greatest now, by a TICKET of his that can be slipped (100 times those odds, and who ..)" */
    private static void watchByOdds() {
        for (int odds = 0; odds <= 12; odds++) {
            LotNobodyWants x = Scenes.people(12 - odds, 6, 6, 6, 6, 6);
            x.ticket(5, 0);
            Check.due("by the fifth, odds " + odds, x.watch(0), 100 * odds + 5);
        }
        LotNobodyWants x = Scenes.people(0, 1, 2, 3);
        Scenes.tickets(x, 1, 2, 3);
        Check.tell(x, "b*2");
        Check.due("the wariest slips best", x.watch(0), 603);
        Check.due("on himself he doesn't", x.watch(3), 402);
        x.mend(2, 6, 4);
        Check.due("nor a folded one", x.watch(0), 402);
        x.ticket(3, 1);
        Check.due("TICKETS of any sort", x.watch(0), 603);
        Check.tell(x, "f*3");
        x.ticket(2, 0);
        x.mend(4, 6, 3);
        Check.due("by the better one of his", x.watch(0), 902);
        x.mend(2, 1, 1);
        Check.due("a child may slip, too", x.watch(0), 902);
        Check.tell(x, "h");
        x.mend(0, 7, 8);
        Check.due("now, at HOUR 8", x.watch(0), 801);
    }

    /** "of like ones the least" */
    private static void watchOfLikeOnes() {
        LotNobodyWants x = Scenes.people(6, 6, 6, 6);
        Scenes.tickets(x, 3, 2, 1);
        Check.due("three alike", x.watch(0), 601);
        Check.due("two alike", x.watch(1), 602);
        Scenes.tickets(x, 0);
        Check.due("the least one's ticket is the last", x.watch(1), 600);
        Check.tell(x, "0");
        Check.due("alike at 0", x.watch(3), 0);
        Check.due("alike at 0, but he himself", x.watch(0), 1);
    }

    /** "NOT": nobody could; a CHILD. */
    private static void watchNot() {
        LotNobodyWants x = Scenes.people(0, 0);
        Check.due("without tickets", x.watch(0), -2);
        x.ticket(0, 0);
        Check.due("his own", x.watch(0), -2);
        Check.due("the other one", x.watch(1), 1200);
        x.mend(0, 6, 4);
        Check.due("all are folded", x.watch(1), -2);
        x.mend(0, 6, 3);
        x.mend(1, 1, 1);
        Check.due("a child", x.watch(1), -2);
        Check.due("nobody, -1", x.watch(-1), -1);
        Check.due("nobody, 2", x.watch(2), -1);
    }
}
