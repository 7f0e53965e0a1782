/** Promises 24 and 25 and the first half of part 4 of the Terms: each sentence that names an edge, on its own. */
public final class EdgesReadBackTest {
    public static void main(String[] args) {
        whatOf0To4();
        whatLacksIsAny();
        minusOneIsAny();
        whoIsNobody();
        allWays();
        whatCantBeDoesNot();
        fewestOfLikeOnes();
        certainOnes();
        likeliestByOdds();
        likeliestOfLikeOnes();
        leftOutTakesNoOdds();
        likeliestAsLikelyTells();
        longestEve();
        yearsAndSlippings();
        whoIsDrawn();
        seedsWrap();
        zAheadOfEach();
        eachYearFromNow();
        drawnKing();
        belowTheOdds();
        Check.finish();
    }

    private static LotNobodyWants told(LotNobodyWants x, int... holders) {
        Check.bytes(x, 1, holders);
        return x;
    }

    /** All that behind() answers, from 0 to 4. */
    private static void behind(String call, LotNobodyWants x, int... want) {
        for (int what = 0; what < want.length; what++) {
            Check.due(call + ", what " + what, x.behind(0, 1, what), want[what]);
        }
    }

    /** WARY 6 each, so that each odds are a half; all TICKETS with 0. */
    private static LotNobodyWants halves(int people, int tickets) {
        LotNobodyWants x = new LotNobodyWants();
        for (int one = 0; one < people; one++) {
            x.person(6);
        }
        for (int k = 0; k < tickets; k++) {
            x.ticket(0, 0);
        }
        return x;
    }

    // ---- BEHIND

    /** "how many ways (what 0), the fewest (1 ..), which (2 ..), CERTAIN (3), LIKELIEST WAY (4 ..)": no other. */
    private static void whatOf0To4() {
        LotNobodyWants x = told(halves(3, 1), 2);
        Check.bytes(x, 0, 1, 2);
        behind("on 2", x, 2, 1, 2, 2, 2);
        Check.due("what -1", x.behind(0, 1, -1), -1);
        Check.due("what 5", x.behind(0, 1, 5), -1);
        Check.due("what least", x.behind(0, 1, Integer.MIN_VALUE), -1);
        Check.due("what greatest", x.behind(0, 1, Integer.MAX_VALUE), -1);
        Check.due("in thought alone", x.of(0, 4), 0);
        told(x, 1);
        behind("on 1", x, 1, 1, 1, 1, 1);
        told(x, 0);
        behind("with 0 still", x, 1, 0, 0, 0, 0);
    }

    /** "of TICKETS 0 on (what lacks: any ..)" */
    private static void whatLacksIsAny() {
        LotNobodyWants x = halves(2, 3);
        Check.bytes(x, 0, 1, 9, 17);
        int[] ways = {8, 4, 2, 1};
        for (int size = 0; size <= 3; size++) {
            x.row(1, 0, size);
            Check.due("so many told, " + size, x.behind(0, 1, 0), ways[size]);
        }
        told(x, 0, 0, 1, 5, 5, 127, -128);
        Check.due("what is told of no TICKETS is nothing", x.behind(0, 1, 0), 1);
        x.row(1, 0, 60);
        Check.due("sixty told", x.behind(0, 1, 0), 1);
        x.row(1, 0, 0);
        x.row(0, 0, 0);
        behind("an empty eve, nothing told", x, 1, 0, 0, 0, 0);
        told(x, 1);
        behind("an empty eve, not as all is", x, 0, -2, -2, 0, -2);
        LotNobodyWants none = Scenes.people(6);
        none.row(0, 0, 12);
        none.row(1, 0, 12);
        behind("no TICKETS", none, 1, 0, 0, 0, 0);
        LotNobodyWants all = halves(2, 12);
        Check.bytes(all, 0, 89);
        told(all, 0, 0, 0, 0, 0, 0, 0, 0, 0, 0, 0, 1, 0);
        behind("the twelfth TICKET is told", all, 1, 1, 1, 1, 1);
        all.put(1, 11, 0);
        behind("it stays", all, 1, 0, 0, 0, 0);
    }

    /** "-1: any" */
    private static void minusOneIsAny() {
        LotNobodyWants x = halves(2, 3);
        Check.bytes(x, 0, 1, 9, 17);
        told(x, -1, -1, -1);
        behind("any", x, 8, 0, 0, 0, 0);
        told(x, -1, 1, -1);
        behind("the second alone", x, 4, 1, 2, 2, 2);
        told(x, 1, -1, 1);
        behind("but the second", x, 2, 2, 5, 5, 5);
    }

    /** What is told and is nobody makes no way so: -2, the next number behind PEOPLE. */
    private static void whoIsNobody() {
        LotNobodyWants x = halves(2, 2);
        Check.bytes(x, 0, 1, 9);
        int[] nobody = {-128, -2, 2, 5, 6, 127};
        for (int one : nobody) {
            told(x, one);
            behind("told " + one, x, 0, -2, -2, 0, -2);
            told(x, -1, one);
            behind("told of the second " + one, x, 0, -2, -2, 0, -2);
        }
    }

    /** "of all ways in which its SLIPPINGS go well or not .. how many make it so": none up to 4096. */
    private static void allWays() {
        LotNobodyWants x = halves(2, 12);
        for (int size = 0; size <= 12; size++) {
            x.row(0, 0, size);
            for (int k = 0; k < size; k++) {
                x.put(0, k, 8 * k + 1);
            }
            x.row(1, 0, 0);
            behind("any, of " + size, x, 1 << size, 0, 0, 0, 0);
            x.row(1, 0, size);
            for (int k = 0; k < size; k++) {
                x.put(1, k, 1);
            }
            int bits = (1 << size) - 1;
            behind("all, of " + size, x, 1, size, bits, bits, bits);
        }
    }

    /** "(what can't be does not)": a way in which it would go well is none. */
    private static void whatCantBeDoesNot() {
        LotNobodyWants x = halves(3, 2);
        Check.bytes(x, 0, 0, 1, 1, 9);
        x.row(1, 0, 0);
        // The third is left out behind the second: so that way takes two halves, none of them three.
        behind("to its own; then once or the other time", x, 6, 0, 0, 0, 2);
        told(x, 1);
        behind("by the second or the third", x, 4, 1, 2, 0, 2);
        x.mend(1, 6, 4);
        told(x, -1, 1);
        behind("a folded one", x, 0, -2, -2, 0, -2);
        x.mend(1, 6, 0);
        behind("unfolded", x, 3, 1, 8, 8, 10);
        x.mend(1, 1, 1);
        behind("a child", x, 0, -2, -2, 0, -2);
        told(x, 0, 0);
        behind("all stays", x, 1, 0, 0, 0, 0);
    }

    /** "the fewest that went well; by that one, which (bits; of like ones the least)" */
    private static void fewestOfLikeOnes() {
        LotNobodyWants x = halves(3, 1);
        Check.bytes(x, 0, 1, 2, 1);
        told(x, 1);
        // 001 (the third is left out), 100, 110, 111.
        behind("by the first alone, not the third", x, 4, 1, 1, 0, 1);
        Check.bytes(x, 0, 1, 0, 2, 1);
        behind("the first or the last", x, 6, 1, 1, 0, 1);
        Check.bytes(x, 0, 1, 2, 0);
        told(x, 0);
        behind("none at all", x, 4, 0, 0, 0, 0);
        Check.bytes(x, 0, 2, 1, 0, 1);
        told(x, 1);
        behind("one, of like ones the least", x, 7, 1, 2, 0, 2);
    }

    /** "CERTAIN: which went well in all those ways; 0 without any." */
    private static void certainOnes() {
        LotNobodyWants x = halves(3, 2);
        Check.bytes(x, 0, 1, 9, 2, 10);
        told(x, 2, 2);
        Check.due("the last two", x.behind(0, 1, 3), 12);
        told(x, 2, 1);
        Check.due("the second, the third", x.behind(0, 1, 3), 6);
        told(x, 2);
        Check.due("the third", x.behind(0, 1, 3), 4);
        told(x, 0, 0);
        Check.due("none is", x.behind(0, 1, 3), 0);
        told(x, 5);
        Check.due("no way", x.behind(0, 1, 3), 0);
    }

    /** "LIKELIEST WAY: the most likely of those ways (by odds ..): which; NOT (odds 0, too)." */
    private static void likeliestByOdds() {
        for (int odds = 0; odds <= 12; odds++) {
            LotNobodyWants x = Scenes.people(12, 12 - odds);
            x.ticket(0, 0);
            Check.bytes(x, 0, 1);
            x.row(1, 0, 0);
            Check.due("any way at " + odds, x.behind(0, 1, 4), odds > 6 ? 1 : 0);
            told(x, 1);
            Check.due("on 1 at " + odds, x.behind(0, 1, 4), odds == 0 ? -2 : 1);
            Check.due("a way it is at " + odds, x.behind(0, 1, 0), 1);
            told(x, 0);
            Check.due("with 0 at " + odds, x.behind(0, 1, 4), odds == 12 ? -2 : 0);
            Check.due("a way that is, too, at " + odds, x.behind(0, 1, 2), 0);
        }
        // On 1 at 4, then on 2 at 9; or on 2 at 9 at once: twice as likely.
        LotNobodyWants x = told(Scenes.people(6, 8, 3), 2);
        x.ticket(0, 0);
        Check.bytes(x, 0, 1, 2);
        behind("at once", x, 2, 1, 2, 2, 2);
        x.mend(1, 0, 5);
        behind("by 1 is likelier than the fewest", x, 2, 1, 2, 2, 3);
    }

    /** "of like ones the least bits" */
    private static void likeliestOfLikeOnes() {
        LotNobodyWants x = told(halves(3, 1), 2);
        Check.bytes(x, 0, 1, 2);
        Check.due("by 1 or at once", x.behind(0, 1, 4), 2);
        Check.bytes(x, 0, 2, 1, 2);
        // Left out costs nothing: 001 stays there at 1/4 with the second failing; 100 needs three.
        Check.due("the first, then not", x.behind(0, 1, 4), 1);
        LotNobodyWants y = halves(2, 3);
        Check.bytes(y, 0, 1, 9, 17);
        y.row(1, 0, 0);
        Check.due("all eight alike", y.behind(0, 1, 4), 0);
        told(y, -1, 1);
        Check.due("four alike", y.behind(0, 1, 4), 2);
    }

    /** What can't be surely does not: ways of like odds with one left out and without. */
    private static void leftOutTakesNoOdds() {
        LotNobodyWants x = Scenes.people(6, 4);
        x.ticket(0, 0);
        x.row(1, 0, 0);
        // On 1 at 8, back on 0 at 6: none (4 of twelve; then it is with 0) as likely as both, or the first.
        Check.bytes(x, 0, 1, 0);
        Check.due("left out in the way of the least bits", x.behind(0, 1, 4), 0);
        LotNobodyWants y = Scenes.people(6, 6);
        Scenes.tickets(y, 0, 0);
        y.mend(1, 6, 1);
        Check.tell(y, "f=1?12;n=0?4;6");
        told(y, -1, 1);
        // 0 at 4, 1 surely, 0 at 6: 8 * 6 twelfths fail twice, as many the first time alone, 4 * 12 go at once.
        Check.bytes(y, 0, 1, 9, 1);
        Check.due("left out in one of more bits", y.behind(0, 1, 4), 2);
    }

    /** The LIKELIEST WAY of all TICKETS is the set that is LIKELY most. */
    private static void likeliestAsLikelyTells() {
        String[] texts = {"12-w", "b+n", "3+n*4-b", "n*6", "12-n*5-f", "11-b*2+w", "b<w?9-n;2+n*3", "h+5-n*2"};
        int[][] eves = {
            {9, 18, 1, 10, 17, 2}, {1, 2, 0, 9, 10, 8}, {10, 8, 17, 16, 1, 9}, {16, 0, 8, 17, 1, 9}, {2, 10, 16, 0, 8, 17}, {25, 1, 26, 2, 24, 0}
        };
        for (String text : texts) {
            for (int[] evening : eves) {
                LotNobodyWants x = Scenes.people(3, 5, 1);
                Scenes.tickets(x, 0, 1, 2, 1);
                x.mend(2, 6, 1);
                Check.tell(x, text);
                Check.bytes(x, 0, evening);
                x.row(1, 0, 0);
                int best = -2;
                double most = 0;
                for (int set = 0; set < 64; set++) {
                    // Of six SLIPPINGS all odds are whole in parts of 12 to the sixth.
                    double odds = 2985984.0 / x.likely(0, set, 1) * x.likely(0, set, 0);
                    if (odds > most) {
                        most = odds;
                        best = set;
                    }
                }
                Check.due("likeliest by " + text + " of " + evening[0] + " " + evening[1], x.behind(0, 1, 4), best);
            }
        }
    }

    /** Twelve SLIPPINGS at 6 of twelve each, 4096 ways: their odds by 12 to the 12th stay whole. */
    private static void longestEve() {
        LotNobodyWants x = halves(2, 1);
        Check.bytes(x, 0, 1, 0, 1, 0, 1, 0, 1, 0, 1, 0, 1, 0);
        told(x, 1);
        // On 1 at 1 of twelve, back to 0 at 12: it can't stay with 1.
        x.mend(0, 0, 0);
        x.mend(1, 0, 11);
        Check.due("never", x.behind(0, 1, 4), -2);
        x.mend(0, 0, 1);
        // Each turn back that fails is but 1 of twelve: so there is one alone.
        Check.due("at the last but one", x.behind(0, 1, 4), 1024);
        x.mend(0, 0, 11);
        // Each turn there or back fails at 11, and one goes well at 1, whichever it is.
        Check.due("both as wary: at once", x.behind(0, 1, 4), 1);
        Check.due("the fewest", x.behind(0, 1, 1), 1);
    }

    // ---- DRAWN

    /** "n years (1 .. 30) of m SLIPPINGS (1 .. 30) .. (nm: 100 n and m)" */
    private static void yearsAndSlippings() {
        for (int n = -1; n <= 32; n++) {
            for (int m = 0; m <= 32; m += m == 1 ? 28 : 1) {
                LotNobodyWants x = Scenes.people(0, 0);
                x.ticket(0, 0);
                boolean taken = n >= 1 && n <= 30 && m >= 1 && m <= 30;
                int kings = x.drawn(5, 100 * n + m, 0);
                if (taken) {
                    Check.due("kings of " + n + " years of " + m, kings + x.drawn(5, 100 * n + m, 1), n);
                } else {
                    Check.due("no " + n + " years of " + m, kings, -1);
                    Check.due("none went well in them", x.drawn(5, 100 * n + m, -1), -1);
                }
            }
        }
        LotNobodyWants x = Scenes.people(0);
        int[] bad = {Integer.MIN_VALUE, -3030, -101, 0, 99, 199, 3099, 3100, 10101, Integer.MAX_VALUE};
        for (int nm : bad) {
            Check.due("nm " + nm, x.drawn(5, nm, 0), -1);
        }
    }

    /** "how often one is king (one 0 on), how many went well (-1)": no other. */
    private static void whoIsDrawn() {
        LotNobodyWants x = Scenes.people(6, 6);
        x.ticket(0, 0);
        int[] nobody = {Integer.MIN_VALUE, -2, 2, Integer.MAX_VALUE};
        for (int one : nobody) {
            Check.due("drawn of " + one, x.drawn(5, 101, one), -1);
        }
        x.mend(1, 1, 1);
        Check.due("nothing can be: 0 is king in all years", x.drawn(5, 3030, 0), 30);
        Check.due("1 is in none", x.drawn(5, 3030, 1), 0);
        Check.due("none went well", x.drawn(5, 3030, -1), 0);
        LotNobodyWants none = new LotNobodyWants();
        Check.due("nobody, no tickets", none.drawn(5, 3030, -1), 0);
        Check.due("nobody is king", none.drawn(5, 101, 0), -1);
        none.person(6);
        Check.due("one without tickets", none.drawn(5, 3030, 0), 0);
    }

    /** One year after another by hand: kings of each, and behind them how many went well. */
    private static int[] byHand(int seed, int nm, int[] wary, int[] holders, int[] forged, int mostOdds) {
        int[] kings = new int[wary.length + 1];
        int z = seed;
        for (int year = 0; year < nm / 100; year++) {
            int[] held = holders.clone();
            for (int m = 0; m < nm % 100; m++) {
                z = z * 1103515245 + 12345;
                int ticket = (z >>> 8) % held.length;
                int to = (z >>> 12) % wary.length;
                if (held[ticket] != to && (z >>> 20) % 12 < Math.min(mostOdds, 12 - wary[to])) {
                    held[ticket] = to;
                    kings[wary.length]++;
                }
            }
            z = z * 1103515245 + 12345;
            int reals = 0;
            for (int f : forged) {
                reals += 1 - f;
            }
            if (reals > 0) {
                int place = (z >>> 8) % reals;
                for (int t = 0; t < forged.length; t++) {
                    place -= 1 - forged[t];
                    if (place < 0) {
                        kings[held[t]]++;
                        break;
                    }
                }
            }
        }
        return kings;
    }

    private static void drawn(String call, int seed, int nm, int[] wary, int[] holders, int[] forged) {
        LotNobodyWants x = Scenes.people(wary);
        for (int t = 0; t < holders.length; t++) {
            x.ticket(holders[t], forged[t]);
        }
        int[] want = byHand(seed, nm, wary, holders, forged, 12);
        for (int one = 0; one < wary.length; one++) {
            Check.due(call + ": king " + one, x.drawn(seed, nm, one), want[one]);
        }
        Check.due(call + ": wells", x.drawn(seed, nm, -1), want[wary.length]);
        for (int t = 0; t < holders.length; t++) {
            Check.due(call + ": HOLDER stays", x.of(t, 4), holders[t]);
        }
    }

    /** "(an int; SEED at first)": any int; z wraps, and goes on without its sign. */
    private static void seedsWrap() {
        int[] seeds = {Integer.MIN_VALUE, Integer.MIN_VALUE + 1, -77, -1, 0, 1, 12345, Integer.MAX_VALUE - 1, Integer.MAX_VALUE};
        for (int seed : seeds) {
            drawn("seed " + seed, seed, 3030, new int[] {3, 5, 4, 0, 12}, new int[] {0, 1, 2, 0, 3, 3, 4}, new int[] {0, 1, 0, 0, 1, 0, 0});
        }
    }

    /** "z = z * 1103515245 + 12345 .. ahead of each": the least of years and SLIPPINGS, and more. */
    private static void zAheadOfEach() {
        int[] all = {101, 102, 130, 201, 230, 3001, 3029, 3030};
        for (int nm : all) {
            for (int seed = 0; seed < 8; seed++) {
                drawn(nm + " by " + seed, seed, nm, new int[] {0, 6, 3}, new int[] {0, 1, 2, 0}, new int[] {0, 0, 0, 1});
            }
        }
        drawn("six and twelve", 4711, 3030, new int[] {0, 1, 2, 3, 4, 5}, new int[] {0, 1, 2, 3, 4, 5, 0, 1, 2, 3, 4, 5}, new int[12]);
        drawn("one and one", 4711, 3030, new int[] {0}, new int[] {0}, new int[1]);
    }

    /** "n years .. from now": each begins as all stands now. */
    private static void eachYearFromNow() {
        // Nobody gives to 0, and what is given stays given: from now, it would not be so in a later year.
        LotNobodyWants x = Scenes.people(12, 0);
        x.ticket(0, 0);
        int[] want = byHand(3, 3001, new int[] {12, 0}, new int[] {0}, new int[1], 12);
        Check.due("0 is king in years in which none went", x.drawn(3, 3001, 0), want[0]);
        Check.due("more than one went", x.drawn(3, 3001, -1), want[2]);
        Check.due("as many as there were kings of the other one", want[1], want[2]);
        Check.due("more than once", want[2] > 1 ? 1 : 0, 1);
    }

    /** "the (z >>> 8) % how many-th real TICKET is drawn (none: nobody is king)" */
    private static void drawnKing() {
        for (int reals = 0; reals <= 12; reals++) {
            int[] forged = new int[12];
            for (int t = 0; t < 12 - reals; t++) {
                forged[t * 5 % 12] = 1;
            }
            drawn(reals + " real ones", 99, 3003, new int[] {2, 4, 6}, new int[] {0, 1, 2, 0, 1, 2, 0, 1, 2, 0, 1, 2}, forged);
        }
    }

    /** "well, if (z >>> 20) % 12 is below the odds"; "(what can't be is left out)" */
    private static void belowTheOdds() {
        for (int odds = 0; odds <= 12; odds++) {
            LotNobodyWants x = Scenes.people(0, 0, 0);
            Scenes.tickets(x, 0, 1, 2);
            Check.tell(x, odds == 12 ? "12" : String.valueOf(odds));
            int[] want = byHand(-5, 2020, new int[] {0, 0, 0}, new int[] {0, 1, 2}, new int[3], odds);
            Check.due("wells at odds " + odds, x.drawn(-5, 2020, -1), want[3]);
            for (int t = 0; t < 3; t++) {
                x.mend(t, 6, 4);
            }
            Check.due("folded ones are left out at " + odds, x.drawn(-5, 2020, -1), 0);
        }
        LotNobodyWants children = Scenes.people(0, 0);
        children.ticket(0, 0);
        children.mend(0, 1, 1);
        Check.due("from a child it goes, once a year", children.drawn(1, 3030, -1), 30);
        children.mend(1, 1, 1);
        Check.due("to a child never", children.drawn(1, 3030, -1), 0);
    }
}
