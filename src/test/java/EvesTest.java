/** Promises 10 to 19: eves in thought, the king, watching, and how to be rid of tickets. */
public final class EvesTest {
    private static final long NONE = Long.MIN_VALUE;

    public static void main(String[] args) {
        laterAlone();
        byWell();
        wellByText();
        endsOfEves();
        refusals();
        likely();
        all();
        king();
        safeAndLikeliest();
        watch();
        rid();
        ridByHours();
        first();
        Check.finish();
    }

    /** WARY 2, 6, 7; odds to them 10, 6, 5. 0 has tickets 0 and 1, 1 has 2 (forged), 2 has 3. */
    private static LotNobodyWants scene() {
        LotNobodyWants x = new LotNobodyWants();
        x.person(2);
        x.person(6);
        x.person(7);
        x.ticket(0, 0);
        x.ticket(0, 0);
        x.ticket(1, 1);
        x.ticket(2, 0);
        return x;
    }

    private static void laterAlone() {
        LotNobodyWants x = scene();
        Check.bytes(x, 0, 16, 24);
        Check.due("later of 2", x.later(0, 12, 2), 0);
        Check.due("later of 3", x.later(0, 12, 3), 0);
        Check.due("later of 3, but one", x.later(0, 1, 3), 2);
        Check.due("later of no ticket", x.later(0, 1, 4), -1);
    }

    private static void byWell() {
        LotNobodyWants x = scene();
        // 0 to 1 (well), 0 to 1 again (left out), 1 to 2 (not), 3 to 0 (well), 2 to 0 (well).
        Check.bytes(x, 0, 1, 1, 10, 24, 16);
        int[] holderOf0 = {0, 1, 1, 1, 1, 1};
        int[] realsOf0 = {2, 1, 1, 1, 2, 2};
        int[] wells = {0, 1, 1, 1, 2, 3};
        int[] leftOut = {0, 0, 2, 2, 2, 2};
        for (int n = 0; n <= 5; n++) {
            Check.due("later n " + n, x.later(0, n, 0), holderOf0[n]);
            Check.due("eve reals n " + n, x.eve(0, n, 0), realsOf0[n]);
            Check.due("eve wells n " + n, x.eve(0, n, -1), wells[n]);
            Check.due("eve left out n " + n, x.eve(0, n, -2), leftOut[n]);
        }
        Check.due("behind all", x.later(0, 12, 3), 0);
        Check.due("odds 5 are not well", x.later(0, 12, 1), 0);
        Check.due("in deed all stays", x.of(0, 4), 0);
        x.mend(1, 6, 4);
        x.mend(0, 1, 1);
        Check.due("folded, and to a child", x.eve(0, 12, -2), 2 + 4 + 8 + 16);
        x.mend(1, 6, 0);
        x.mend(0, 1, 0);
        Check.due("no longer", x.eve(0, 12, -2), 2);
    }

    private static void wellByText() {
        LotNobodyWants x = scene();
        // n counts in thought: as soon as 1 has two tickets, nothing more goes well to him.
        Check.tell(x, "n<2?6;5");
        Check.bytes(x, 0, 1, 9, 25);
        Check.due("one goes well", x.eve(0, 12, -1), 1);
        Check.due("none is left out", x.eve(0, 12, -2), 0);
    }

    private static void endsOfEves() {
        LotNobodyWants x = scene();
        Check.bytes(x, 0, 1, 3, 24);
        Check.due("ends with nobody", x.eve(0, 12, -1), 1);
        Check.bytes(x, 0, 1, 33, 24);
        Check.due("ends with no ticket", x.eve(0, 12, -1), 1);
        Check.bytes(x, 0, 1, -1, 24);
        Check.due("ends below 0", x.eve(0, 12, -1), 1);
        Check.bytes(x, 0, 1, 0, 1, 0, 1, 0, 1, 0, 1, 0, 1, 0, 1, 0, 1);
        Check.due("twelve at most", x.eve(0, 12, -1), 12);
        Check.due("the thirteenth counts for nothing", x.later(0, 12, 0), 0);
    }

    private static void refusals() {
        LotNobodyWants x = scene();
        x.row(0, 0, 1);
        x.row(1, 1, 1);
        x.body(0);
        x.keep(2, 0);
        int[] shelves = {1, 2, 3, 6, -1};
        int[] due = {-12, -12, -11, -1, -1};
        for (int k = 0; k < 5; k++) {
            Check.due("later on " + shelves[k], x.later(shelves[k], 0, 0), due[k]);
            Check.due("eve on " + shelves[k], x.eve(shelves[k], 0, 0), due[k]);
            Check.due("likely on " + shelves[k], x.likely(shelves[k], 0, 0), NONE);
            Check.due("all on " + shelves[k], x.all(shelves[k], 0), NONE);
        }
        int[] badN = {-1, 13};
        for (int n : badN) {
            Check.due("later n " + n, x.later(0, n, 0), -1);
            Check.due("eve n " + n, x.eve(0, n, 0), -1);
            Check.due("later n first " + n, x.later(3, n, 0), -1);
        }
        Check.due("later of no ticket", x.later(0, 0, 4), -1);
        Check.due("eve of nobody", x.eve(0, 0, 3), -1);
        Check.due("eve -3", x.eve(0, 0, -3), -1);
    }

    private static void likely() {
        LotNobodyWants x = scene();
        // odds 6, then (if so) 5 from 1 to 2, else to 2 from 0; the last is left out if 0 has it.
        Check.bytes(x, 0, 1, 2, 0);
        Check.due("none goes well", x.likely(0, 0, 0), x.likely(0, 0, 1), 7, 24);
        Check.due("the first alone", x.likely(0, 1, 0), x.likely(0, 1, 1), 7, 144);
        Check.due("the first two", x.likely(0, 3, 0), x.likely(0, 3, 1), 5, 144);
        Check.due("all three", x.likely(0, 7, 0), x.likely(0, 7, 1), 25, 144);
        Check.due("the last, which is left out then", x.likely(0, 4, 0), x.likely(0, 4, 1), 0, 1);
        Check.due("a bit beyond", x.likely(0, 8, 0), x.likely(0, 8, 1), 0, 1);
        Check.due("set -1", x.likely(0, -1, 0), NONE);
        Check.due("set 4096", x.likely(0, 4096, 0), NONE);
        Check.due("set 4095", x.likely(0, 4095, 1), 1);
        Check.due("part 2", x.likely(0, 1, 2), NONE);
        Check.due("part -1", x.likely(0, 1, -1), NONE);
        Check.tell(x, "1");
        Check.bytes(x, 0, 1, 0, 1, 0, 1, 0, 1, 0, 1, 0, 1, 0);
        Check.due("a small one", x.likely(0, 4095, 0), x.likely(0, 4095, 1), 1, 8916100448256L);
    }

    private static void all() {
        LotNobodyWants x = scene();
        Check.bytes(x, 0, 1, 1, 2, 0);
        Check.due("all that can", x.all(0, 0), x.all(0, 1), 25, 144);
        Check.due("part 2", x.all(0, 2), NONE);
        x.mend(2, 0, 12);
        Check.due("with odds 0", x.all(0, 0), x.all(0, 1), 0, 1);
        x.row(0, 0, 0);
        Check.due("an empty eve", x.all(0, 0), x.all(0, 1), 1, 1);
    }

    private static void king() {
        LotNobodyWants x = scene();
        Check.due("king 0", x.king(0, 0), x.king(0, 1), 2, 3);
        Check.due("king 1", x.king(1, 0), x.king(1, 1), 0, 1);
        Check.due("king 2", x.king(2, 0), x.king(2, 1), 1, 3);
        x.ticket(2, 0);
        Check.due("in lowest terms", x.king(0, 0), x.king(0, 1), 1, 2);
        Check.due("nobody", x.king(3, 0), NONE);
        Check.due("part 2", x.king(0, 2), NONE);
        LotNobodyWants y = new LotNobodyWants();
        y.person(1);
        y.ticket(0, 1);
        Check.due("no real one", y.king(0, 0), y.king(0, 1), 0, 1);
    }

    private static void safeAndLikeliest() {
        LotNobodyWants x = scene();
        Check.due("safe", x.safe(), 2);
        Check.due("likeliest", x.likeliest(), 0);
        x.ticket(2, 0);
        x.ticket(2, 1);
        Check.due("of like ones the least", x.likeliest(), 0);
        LotNobodyWants z = scene();
        z.mend(1, 5, 1);
        z.mend(0, 4, 1);
        Check.due("with one each", z.likeliest(), 1);
        Check.due("safe with a forged one of two", z.safe(), 1);
        x.mend(0, 4, 2);
        Check.due("likeliest then", x.likeliest(), 2);
        x.mend(1, 4, 2);
        Check.due("safe then", x.safe(), 3);
        LotNobodyWants y = new LotNobodyWants();
        Check.due("nobody", y.likeliest(), -2);
        Check.due("nobody safe", y.safe(), 0);
        y.person(1);
        y.ticket(0, 1);
        Check.due("no real one", y.likeliest(), -2);
        Check.due("safe with a forged one", y.safe(), 1);
    }

    private static void watch() {
        LotNobodyWants x = scene();
        Check.due("watch 0: 1's forged one", x.watch(0), 1001);
        Check.due("watch 1", x.watch(1), 600);
        Check.due("watch nobody", x.watch(3), -1);
        Check.due("watch -1", x.watch(-1), -1);
        Check.tell(x, "b");
        Check.due("by who slips it: 2", x.watch(0), 702);
        Check.due("watch 2: 1", x.watch(2), 601);
        x.mend(3, 6, 4);
        Check.due("a folded one can't", x.watch(0), 601);
        Check.tell(x, "0");
        Check.due("odds 0, of like ones the least", x.watch(0), 1);
        x.mend(0, 1, 1);
        Check.due("a child", x.watch(0), -2);
        LotNobodyWants y = new LotNobodyWants();
        y.person(1);
        y.ticket(0, 0);
        Check.due("his own alone", y.watch(0), -2);
        y.person(12);
        y.person(5);
        Check.due("ticket 0, odds 0", y.watch(1), 0);
        Check.due("ticket 0", y.watch(2), 700);
        y.ticket(1, 0);
        Check.due("by the like odds of two, the least", y.watch(2), 700);
        Check.tell(y, "b=12?3;7");
        Check.due("greater odds go first", y.watch(2), 700);
        Check.tell(y, "b=12?8;7");
        Check.due("of a later one, too", y.watch(2), 801);
    }

    private static void rid() {
        LotNobodyWants x = scene();
        Check.due("no hour", x.rid(0, 0, 0), x.rid(0, 0, 1), 1, 3);
        // 0's best odds are 6, on 1: from 1 / 3 half a third more, then ...
        Check.due("an hour", x.rid(0, 1, 0), x.rid(0, 1, 1), 1, 2);
        Check.due("two hours", x.rid(0, 2, 0), x.rid(0, 2, 1), 2, 3);
        Check.due("three hours", x.rid(0, 3, 0), x.rid(0, 3, 1), 19, 24);
        Check.due("1 has no real one", x.rid(1, 3, 0), x.rid(1, 3, 1), 1, 1);
        Check.due("nobody", x.rid(3, 1, 0), NONE);
        Check.due("t 4", x.rid(0, 4, 0), NONE);
        Check.due("t -1", x.rid(0, -1, 0), NONE);
        Check.due("part 2", x.rid(0, 1, 2), NONE);
        Check.due("in deed all stays", x.of(0, 9), 2);
        LotNobodyWants y = new LotNobodyWants();
        y.person(1);
        y.person(1);
        y.ticket(0, 1);
        Check.due("no real one at all", y.rid(0, 2, 0), y.rid(0, 2, 1), 1, 1);
        y.ticket(0, 0);
        Check.due("a forged one is not slipped", y.rid(0, 1, 0), y.rid(0, 1, 1), 11, 12);
        y.mend(1, 6, 4);
        Check.due("nor a folded one", y.rid(0, 1, 0), y.rid(0, 1, 1), 0, 1);
    }

    private static void ridByHours() {
        LotNobodyWants x = new LotNobodyWants();
        x.person(1);
        x.person(1);
        x.ticket(0, 0);
        Check.tell(x, "h");
        x.mend(0, 7, 9);
        Check.due("hour 9", x.rid(0, 1, 0), x.rid(0, 1, 1), 3, 4);
        Check.due("hours 9, 10", x.rid(0, 2, 0), x.rid(0, 2, 1), 23, 24);
        x.mend(0, 7, 10);
        Check.due("hours 10, 11, 11", x.rid(0, 3, 0), x.rid(0, 3, 1), 863, 864);
        // Each gets one at most: then a second ticket can't go to him.
        x.person(1);
        x.ticket(0, 0);
        x.ticket(0, 0);
        Check.tell(x, "n=0?12;0");
        Check.due("one to each", x.rid(0, 3, 0), x.rid(0, 3, 1), 2, 3);
        Check.tell(x, "n=1?12;n=0?6;0");
        Check.due("the second one is surer", x.rid(0, 2, 0), x.rid(0, 2, 1), 5, 12);
        Check.due("and begins with either, the least", x.first(0, 2), 1);
        // Folded ones go in the second hour alone.
        x.mend(0, 7, 0);
        x.mend(1, 6, 2);
        x.mend(2, 6, 2);
        Check.tell(x, "f=0&h=0?12;f=2&h=1?12;0");
        Check.due("by hour and folds", x.rid(0, 3, 0), x.rid(0, 3, 1), 2, 3);
    }

    private static void first() {
        LotNobodyWants x = scene();
        Check.due("no hour", x.first(0, 0), -2);
        Check.due("an hour", x.first(0, 1), 1);
        Check.due("three hours", x.first(0, 3), 1);
        Check.due("2's, on 0", x.first(2, 2), 24);
        Check.due("1 needs none", x.first(1, 3), -2);
        Check.due("nobody", x.first(3, 1), -1);
        Check.due("t 4", x.first(0, 4), -1);
        Check.due("t -1", x.first(0, -1), -1);
        x.mend(0, 6, 1);
        Check.tell(x, "f=0?6;5");
        Check.due("the other ticket is better", x.first(0, 1), 9);
        Check.tell(x, "0");
        Check.due("none is as good as any", x.first(0, 3), -2);
        Check.tell(x, "h=1?12;0");
        Check.due("none in the first hour", x.first(0, 2), -2);
        Check.due("but free at last", x.rid(0, 2, 0), x.rid(0, 2, 1), 2, 3);
        // A first slipping that goes well would spoil the second hour: n is 1's.
        LotNobodyWants y = new LotNobodyWants();
        y.person(1);
        y.person(1);
        y.ticket(0, 0);
        y.ticket(0, 0);
        Check.tell(y, "h=0?1;n=0?12;0");
        Check.due("to wait is better", y.first(0, 2), -2);
        Check.due("waiting", y.rid(0, 2, 0), y.rid(0, 2, 1), 1, 2);
    }
}
