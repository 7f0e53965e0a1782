/** Of each refused call its answer, which of several answers goes ahead, and that nothing changed by it. */
public final class RefusedTest {
    private static final long NONE = Long.MIN_VALUE;
    private static final int BODY_SHELF = 2, NO_SHELF = 3, SHORTS = 4, BOOLEANS = 5;

    private static final Refusals NEW = new Refusals(LotNobodyWants::new);
    private static final Refusals BUSY = new Refusals(Scenes::busy);
    private static final Refusals FULL = new Refusals(Scenes::full);

    public static void main(String[] args) {
        changesAreSeen();
        thoughtChangesNothing();
        person();
        ticket();
        tickets();
        mend();
        mendOfAll();
        of();
        feedAndOdds();
        laterAndEve();
        likelyAndAll();
        kingAndWatch();
        ridAndFirst();
        hire();
        friendShareAndHalf();
        behind();
        drawn();
        slip();
        foldAndLed();
        backUndoAndRedo();
        bodyAndTrace();
        keepAndRow();
        putAndElement();
        shift();
        takenAndCount();
        Check.finish();
    }

    /** Were these not seen, the tests below would say nothing. */
    private static void changesAreSeen() {
        BUSY.changes("person", x -> x.person(1));
        BUSY.changes("ticket", x -> x.ticket(0, 0));
        BUSY.changes("tickets", x -> x.tickets(1, 2, 1));
        for (int what = 0; what < 9; what++) {
            int told = what;
            BUSY.changes("mend " + what, x -> x.mend(0, told, x.of(0, told) == 1 ? 0 : 1));
        }
        BUSY.changes("feed", x -> x.feed('1'));
        BUSY.changes("law", x -> x.law());
        BUSY.changes("slip", x -> x.slip(1, 1));
        BUSY.changes("a slip that fails", x -> x.slip(1, 0));
        BUSY.changes("fold", x -> x.fold(0));
        BUSY.changes("hour", x -> x.hour());
        BUSY.changes("image", x -> x.image());
        BUSY.changes("back", x -> x.back());
        BUSY.changes("undo", x -> x.undo());
        BUSY.changes("redo", x -> x.redo());
        BUSY.changes("body", x -> x.body(0));
        BUSY.changes("act", x -> x.act(0, 0, 0));
        BUSY.changes("keep", x -> x.keep(0, -1));
        BUSY.changes("row", x -> x.row(0, 0, 7));
        BUSY.changes("put", x -> x.put(0, 0, 7));
        BUSY.changes("shift", x -> x.shift(0, 0, 0, 1, 2));
    }

    /** Parts 2 to 4 are thought: all stays as it is. */
    private static void thoughtChangesNothing() {
        BUSY.leavesAll("of", x -> x.of(0, 0));
        BUSY.leavesAll("odds", x -> x.odds(1));
        BUSY.leavesAll("later", x -> x.later(0, 7, 0));
        BUSY.leavesAll("eve", x -> x.eve(0, 7, -1));
        BUSY.leavesAll("likely", x -> x.likely(0, 3, 0));
        BUSY.leavesAll("all", x -> x.all(0, 0));
        BUSY.leavesAll("king", x -> x.king(0, 0));
        BUSY.leavesAll("safe", x -> x.safe());
        BUSY.leavesAll("likeliest", x -> x.likeliest());
        BUSY.leavesAll("watch", x -> x.watch(1));
        BUSY.leavesAll("rid", x -> x.rid(0, 3, 0));
        BUSY.leavesAll("first", x -> x.first(0, 3));
        BUSY.leavesAll("hire", x -> x.hire(0, 1, 0));
        BUSY.leavesAll("friend", x -> x.friend(1, 6));
        BUSY.leavesAll("share", x -> x.share(0, 9999));
        BUSY.leavesAll("half", x -> x.half());
        for (int what = 0; what < 5; what++) {
            int told = what;
            BUSY.leavesAll("behind " + what, x -> x.behind(0, 1, told));
        }
        BUSY.leavesAll("drawn", x -> x.drawn(7, 3030, 0));
        BUSY.leavesAll("led", x -> x.led(0));
        BUSY.leavesAll("trace", x -> x.trace(0));
        BUSY.leavesAll("element", x -> x.element(0, 0));
        BUSY.leavesAll("taken", x -> x.taken(2, 0));
        BUSY.leavesAll("count", x -> x.count(0));
    }

    // ---- promises 2 to 9

    private static void person() {
        for (int wary : Refusals.beside(0, 12)) {
            NEW.due("the first person(" + wary + ")", -1, x -> x.person(wary));
            BUSY.due("person(" + wary + ")", -1, x -> x.person(wary));
            FULL.due("BAD ahead of FULL: person(" + wary + ")", -1, x -> x.person(wary));
        }
        FULL.due("a seventh, person(0)", -3, x -> x.person(0));
        FULL.due("a seventh, person(12)", -3, x -> x.person(12));
    }

    private static void ticket() {
        NEW.due("ticket(0, 0) of nobody", -1, x -> x.ticket(0, 0));
        for (int holder : Refusals.beside(0, 3)) {
            BUSY.due("ticket(" + holder + ", 0)", -1, x -> x.ticket(holder, 0));
        }
        for (int forged : Refusals.beside(0, 1)) {
            BUSY.due("ticket(0, " + forged + ")", -1, x -> x.ticket(0, forged));
            FULL.due("BAD ahead of FULL: ticket(0, " + forged + ")", -1, x -> x.ticket(0, forged));
        }
        for (int holder : Refusals.beside(0, 5)) {
            FULL.due("BAD ahead of FULL: ticket(" + holder + ", 0)", -1, x -> x.ticket(holder, 0));
        }
        FULL.due("a thirteenth, ticket(0, 0)", -3, x -> x.ticket(0, 0));
        FULL.due("a thirteenth, ticket(5, 1)", -3, x -> x.ticket(5, 1));
    }

    private static void tickets() {
        for (int shelf : Refusals.beside(0, 5)) {
            BUSY.due("tickets(" + shelf + ", 0, 1)", -1, x -> x.tickets(shelf, 0, 1));
        }
        for (int n : Refusals.beside(1, 12)) {
            BUSY.due("tickets(1, 0, " + n + ")", -1, x -> x.tickets(1, 0, n));
            BUSY.due("BAD, though nothing is there: tickets(3, 0, " + n + ")", -1, x -> x.tickets(NO_SHELF, 0, n));
            BUSY.due("BAD ahead of -12: tickets(4, 0, " + n + ")", -1, x -> x.tickets(SHORTS, 0, n));
        }
        BUSY.due("from a body", -12, x -> x.tickets(BODY_SHELF, 0, 1));
        BUSY.due("from shorts", -12, x -> x.tickets(SHORTS, 0, 1));
        BUSY.due("from booleans", -12, x -> x.tickets(BOOLEANS, 0, 1));
        BUSY.due("from nothing", 0, x -> x.tickets(NO_SHELF, 0, 1));
        int[] noPlaces = {Integer.MIN_VALUE, -3, -1, 5, 6, 7, 8, 60, Integer.MAX_VALUE - 2, Integer.MAX_VALUE};
        for (int i : noPlaces) {
            BUSY.due("tickets(0, " + i + ", 12)", 0, x -> x.tickets(0, i, 12));
        }
        FULL.due("FULL ones take none, and that is 0", 0, x -> x.tickets(0, 0, 1));
    }

    private static void mend() {
        int[] most = {12, 1, 99, 9, 3, 1, 4, 11, 9};
        for (int what = 0; what < 9; what++) {
            int told = what;
            int last = what < 4 ? 3 : what < 7 ? 6 : 0;
            for (int v : Refusals.beside(0, most[what])) {
                BUSY.due("mend(0, " + what + ", " + v + ")", -1, x -> x.mend(0, told, v));
                BUSY.due("mend(" + last + ", " + what + ", " + v + ")", -1, x -> x.mend(last, told, v));
            }
            for (int number : Refusals.beside(0, last)) {
                BUSY.due("mend(" + number + ", " + what + ", 1)", -1, x -> x.mend(number, told, 1));
            }
            BUSY.leavesAll("telling the same number, " + what, x -> x.mend(0, told, x.of(0, told)));
            NEW.due("mend(0, " + what + ", -1) ahead of all", -1, x -> x.mend(0, told, -1));
        }
        for (int what : Refusals.beside(0, 8)) {
            BUSY.due("mend(0, " + what + ", 0)", -1, x -> x.mend(0, what, 0));
        }
        BUSY.due("how many he has can't be mended", -1, x -> x.mend(0, 9, 0));
        BUSY.due("nor how many real ones", -1, x -> x.mend(0, 10, 0));
    }

    private static void mendOfAll() {
        for (int what = 0; what < 7; what++) {
            int told = what;
            FULL.due("mend of one more than all, " + what, -1, x -> x.mend(told < 4 ? 6 : 12, told, 1));
            NEW.due("mend of the first of none, " + what, -1, x -> x.mend(0, told, 0));
        }
        FULL.due("the sixth is the last HOLDER", -1, x -> x.mend(0, 4, 6));
        NEW.due("HOUR 12", -1, x -> x.mend(0, 7, 12));
        NEW.due("SEEN 10", -1, x -> x.mend(0, 8, 10));
    }

    private static void of() {
        for (int what = 0; what < 11; what++) {
            int told = what;
            int last = what < 4 || what > 8 ? 3 : what < 7 ? 6 : 0;
            for (int number : Refusals.beside(0, last)) {
                BUSY.due("of(" + number + ", " + what + ")", -1, x -> x.of(number, told));
            }
            if (what < 7 || what > 8) {
                NEW.due("of(0, " + what + ") of none", -1, x -> x.of(0, told));
                FULL.due("of one more than all, " + what, -1, x -> x.of(told < 4 || told > 8 ? 6 : 12, told));
            }
        }
        for (int what : Refusals.beside(0, 10)) {
            BUSY.due("of(0, " + what + ")", -1, x -> x.of(0, what));
        }
    }

    private static void feedAndOdds() {
        for (int letter : Refusals.beside(0, 255)) {
            BUSY.due("feed(" + letter + ")", -1, x -> x.feed(letter));
            FULL.due("BAD ahead of FULL: feed(" + letter + ")", -1, x -> x.feed(letter));
        }
        FULL.due("feed(0) on a full tape", -3, x -> x.feed(0));
        FULL.due("feed(255) on a full tape", -3, x -> x.feed(255));
        int[] badOnes = {Integer.MIN_VALUE, -8, -1, 4, 7, 52, 55, 56, 96, Integer.MAX_VALUE};
        for (int tp : badOnes) {
            BUSY.due("odds(" + tp + ")", -1, x -> x.odds(tp));
        }
        FULL.due("odds(94), to a seventh", -1, x -> x.odds(94));
        FULL.due("odds(95), to an eighth", -1, x -> x.odds(95));
        FULL.due("odds(96), a thirteenth", -1, x -> x.odds(96));
        NEW.due("odds(0) of none", -1, x -> x.odds(0));
    }

    // ---- promises 10 to 19

    private static void laterAndEve() {
        for (int shelf : Refusals.beside(0, 5)) {
            BUSY.due("later(" + shelf + ", 0, 0)", -1, x -> x.later(shelf, 0, 0));
            BUSY.due("eve(" + shelf + ", 0, 0)", -1, x -> x.eve(shelf, 0, 0));
        }
        int[] shelves = {0, BODY_SHELF, NO_SHELF, SHORTS};
        for (int shelf : shelves) {
            for (int n : Refusals.beside(0, 12)) {
                BUSY.due("later(" + shelf + ", " + n + ", 0)", -1, x -> x.later(shelf, n, 0));
                BUSY.due("eve(" + shelf + ", " + n + ", 0)", -1, x -> x.eve(shelf, n, 0));
            }
            for (int ticket : Refusals.beside(0, 6)) {
                BUSY.due("later(" + shelf + ", 0, " + ticket + ")", -1, x -> x.later(shelf, 0, ticket));
            }
            for (int one : Refusals.beside(-2, 3)) {
                BUSY.due("eve(" + shelf + ", 0, " + one + ")", -1, x -> x.eve(shelf, 0, one));
            }
        }
        BUSY.due("later on nothing", -11, x -> x.later(NO_SHELF, 0, 0));
        BUSY.due("later on a body", -12, x -> x.later(BODY_SHELF, 0, 0));
        BUSY.due("later on shorts", -12, x -> x.later(SHORTS, 0, 0));
        for (int one = -2; one < 4; one++) {
            int told = one;
            BUSY.due("eve of " + one + " on nothing", -11, x -> x.eve(NO_SHELF, 0, told));
            BUSY.due("eve of " + one + " on a body", -12, x -> x.eve(BODY_SHELF, 0, told));
            BUSY.due("eve of " + one + " on booleans", -12, x -> x.eve(BOOLEANS, 0, told));
        }
        NEW.due("later of no ticket, on nothing", -1, x -> x.later(0, 0, 0));
        NEW.due("eve of nobody, on nothing", -1, x -> x.eve(0, 0, 0));
        NEW.due("eve: how many, on nothing", -11, x -> x.eve(0, 0, -1));
    }

    private static void likelyAndAll() {
        for (int part = 0; part < 2; part++) {
            int told = part;
            for (int shelf : Refusals.beside(0, 5)) {
                BUSY.due("likely(" + shelf + ", 0, " + part + ")", NONE, x -> x.likely(shelf, 0, told));
                BUSY.due("all(" + shelf + ", " + part + ")", NONE, x -> x.all(shelf, told));
            }
            int[] noBytes = {BODY_SHELF, NO_SHELF, SHORTS, BOOLEANS};
            for (int shelf : noBytes) {
                BUSY.due("likely(" + shelf + ", 0, " + part + ")", NONE, x -> x.likely(shelf, 0, told));
                BUSY.due("all(" + shelf + ", " + part + ")", NONE, x -> x.all(shelf, told));
            }
            for (int set : Refusals.beside(0, 4095)) {
                BUSY.due("likely(0, " + set + ", " + part + ")", NONE, x -> x.likely(0, set, told));
            }
        }
        for (int part : Refusals.beside(0, 1)) {
            BUSY.due("likely(0, 0, " + part + ")", NONE, x -> x.likely(0, 0, part));
            BUSY.due("likely(0, 4095, " + part + "), 0 by 1", NONE, x -> x.likely(0, 4095, part));
            BUSY.due("all(0, " + part + ")", NONE, x -> x.all(0, part));
        }
    }

    private static void kingAndWatch() {
        for (int one : Refusals.beside(0, 3)) {
            BUSY.due("king(" + one + ", 0)", NONE, x -> x.king(one, 0));
            BUSY.due("king(" + one + ", 1)", NONE, x -> x.king(one, 1));
            BUSY.due("watch(" + one + ")", -1, x -> x.watch(one));
        }
        for (int part : Refusals.beside(0, 1)) {
            BUSY.due("king(0, " + part + ")", NONE, x -> x.king(0, part));
        }
        NEW.due("king(0, 0) of nobody", NONE, x -> x.king(0, 0));
        NEW.due("watch(0) of nobody", -1, x -> x.watch(0));
        FULL.due("king(6, 0)", NONE, x -> x.king(6, 0));
        FULL.due("watch(6)", -1, x -> x.watch(6));
        BUSY.due("watch of a child", -2, x -> x.watch(3));
        NEW.due("likeliest of nobody", -2, x -> x.likeliest());
        NEW.due("half of nothing", -2, x -> x.half());
    }

    private static void ridAndFirst() {
        for (int one : Refusals.beside(0, 3)) {
            for (int t = 0; t < 4; t++) {
                int hours = t;
                BUSY.due("rid(" + one + ", " + t + ", 0)", NONE, x -> x.rid(one, hours, 0));
                BUSY.due("first(" + one + ", " + t + ")", -1, x -> x.first(one, hours));
            }
        }
        for (int t : Refusals.beside(0, 3)) {
            BUSY.due("rid(0, " + t + ", 0)", NONE, x -> x.rid(0, t, 0));
            BUSY.due("rid(0, " + t + ", 1)", NONE, x -> x.rid(0, t, 1));
            BUSY.due("BAD ahead of NOT: first(3, " + t + ")", -1, x -> x.first(3, t));
            BUSY.due("first(0, " + t + ")", -1, x -> x.first(0, t));
        }
        for (int part : Refusals.beside(0, 1)) {
            BUSY.due("rid(0, 0, " + part + ")", NONE, x -> x.rid(0, 0, part));
            BUSY.due("rid(0, 3, " + part + ")", NONE, x -> x.rid(0, 3, part));
        }
        for (int one = 0; one < 4; one++) {
            int told = one;
            BUSY.due("first(" + one + ", 0): no hour, none", -2, x -> x.first(told, 0));
        }
        NEW.due("rid(0, 0, 0) of nobody", NONE, x -> x.rid(0, 0, 0));
        NEW.due("first(0, 0) of nobody", -1, x -> x.first(0, 0));
    }

    // ---- promises 20 to 25

    private static void hire() {
        for (int one : Refusals.beside(0, 3)) {
            BUSY.due("hire(" + one + ", 0, 0)", -1, x -> x.hire(one, 0, 0));
        }
        for (int k : Refusals.beside(0, 12)) {
            BUSY.due("BAD ahead of NOT: hire(0, " + k + ", 0)", -1, x -> x.hire(0, k, 0));
            BUSY.due("BAD ahead of NOT: hire(0, " + k + ", 1)", -1, x -> x.hire(0, k, 1));
        }
        for (int what : Refusals.beside(0, 1)) {
            BUSY.due("hire(0, 1, " + what + ")", -1, x -> x.hire(0, 1, what));
            BUSY.due("BAD ahead of NOT: hire(0, 12, " + what + ")", -1, x -> x.hire(0, 12, what));
        }
        BUSY.due("to whom none goes", -2, x -> x.hire(0, 0, 1));
        BUSY.due("he hasn't so many", -2, x -> x.hire(0, 12, 0));
        BUSY.due("nor so many for whom", -2, x -> x.hire(0, 12, 1));
        NEW.due("hire(0, 0, 0) of nobody", -1, x -> x.hire(0, 0, 0));
        FULL.due("nobody takes one", -2, x -> x.hire(0, 1, 0));
        FULL.due("nobody takes a last one", -2, x -> x.hire(0, 1, 1));
    }

    private static void friendShareAndHalf() {
        for (int one : Refusals.beside(0, 3)) {
            BUSY.due("friend(" + one + ", 0)", -1, x -> x.friend(one, 0));
            BUSY.due("share(" + one + ", 0)", -1, x -> x.share(one, 0));
        }
        for (int k : Refusals.beside(0, 12)) {
            BUSY.due("friend(0, " + k + ")", -1, x -> x.friend(0, k));
            BUSY.due("BAD ahead of NOT: friend(3, " + k + ")", -1, x -> x.friend(3, k));
        }
        for (int v : Refusals.beside(0, 9999)) {
            BUSY.due("share(0, " + v + ")", -1, x -> x.share(0, v));
            BUSY.due("share(1, " + v + ")", -1, x -> x.share(1, v));
        }
        BUSY.due("a child can't be all", -2, x -> x.friend(3, 12));
        NEW.due("friend(0, 0) of nobody", -1, x -> x.friend(0, 0));
        NEW.due("share(0, 0) of nobody", -1, x -> x.share(0, 0));
    }

    private static void behind() {
        int[] shelves = {0, BODY_SHELF, NO_SHELF, SHORTS};
        for (int shelf : shelves) {
            for (int bad : Refusals.beside(0, 5)) {
                BUSY.due("behind(" + bad + ", " + shelf + ", 0)", -1, x -> x.behind(bad, shelf, 0));
                BUSY.due("behind(" + shelf + ", " + bad + ", 0)", -1, x -> x.behind(shelf, bad, 0));
            }
            for (int what : Refusals.beside(0, 4)) {
                BUSY.due("behind(" + shelf + ", 1, " + what + ")", -1, x -> x.behind(shelf, 1, what));
                BUSY.due("behind(0, " + shelf + ", " + what + ")", -1, x -> x.behind(0, shelf, what));
            }
        }
        for (int what = 0; what < 5; what++) {
            int told = what;
            BUSY.due("no eve, " + what, -11, x -> x.behind(NO_SHELF, 1, told));
            BUSY.due("nothing told, " + what, -11, x -> x.behind(0, NO_SHELF, told));
            BUSY.due("neither, " + what, -11, x -> x.behind(NO_SHELF, NO_SHELF, told));
            BUSY.due("-11 ahead of -12, told, " + what, -11, x -> x.behind(SHORTS, NO_SHELF, told));
            BUSY.due("-11 ahead of -12, eve, " + what, -11, x -> x.behind(NO_SHELF, BODY_SHELF, told));
            BUSY.due("an eve of shorts, " + what, -12, x -> x.behind(SHORTS, 1, told));
            BUSY.due("a body for an eve, " + what, -12, x -> x.behind(BODY_SHELF, 1, told));
            BUSY.due("told in booleans, " + what, -12, x -> x.behind(0, BOOLEANS, told));
            BUSY.due("a body told, " + what, -12, x -> x.behind(0, BODY_SHELF, told));
        }
    }

    private static void drawn() {
        int[] badYears = {Integer.MIN_VALUE, -3030, -101, -1, 0, 1, 30, 99, 100, 131, 199, 200, 3000, 3031, 3099, 3100, 3101, 3130, Integer.MAX_VALUE};
        for (int nm : badYears) {
            BUSY.due("drawn(7, " + nm + ", 0)", -1, x -> x.drawn(7, nm, 0));
            NEW.due("drawn(7, " + nm + ", -1)", -1, x -> x.drawn(7, nm, -1));
        }
        for (int one : Refusals.beside(-1, 3)) {
            BUSY.due("drawn(7, 101, " + one + ")", -1, x -> x.drawn(7, 101, one));
        }
        NEW.due("drawn(7, 101, 0) of nobody", -1, x -> x.drawn(7, 101, 0));
        FULL.due("drawn(7, 101, 6)", -1, x -> x.drawn(7, 101, 6));
    }

    // ---- promises 26 to 33

    private static void slip() {
        int[] badOnes = {Integer.MIN_VALUE, -8, -1, 4, 7, 52, 55, 56, 96, Integer.MAX_VALUE};
        for (int tp : badOnes) {
            BUSY.due("slip(" + tp + ", 1)", -1, x -> x.slip(tp, 1));
            BUSY.due("slip(" + tp + ", 0)", -1, x -> x.slip(tp, 0));
        }
        for (int well : Refusals.beside(0, 1)) {
            BUSY.due("slip(1, " + well + ")", -1, x -> x.slip(1, well));
            BUSY.due("BAD ahead of STATE: slip(3, " + well + ")", -1, x -> x.slip(3, well));
        }
        for (int well = 0; well < 2; well++) {
            int told = well;
            BUSY.due("to a child, " + well, -5, x -> x.slip(3, told));
            BUSY.due("to its own holder, " + well, -5, x -> x.slip(0, told));
            BUSY.due("one folded four times, " + well, -5, x -> x.slip(48, told));
        }
        NEW.due("slip(0, 1) of none", -1, x -> x.slip(0, 1));
        FULL.due("slip(94, 1)", -1, x -> x.slip(94, 1));
        FULL.due("slip(96, 1)", -1, x -> x.slip(96, 1));
    }

    private static void foldAndLed() {
        for (int ticket : Refusals.beside(0, 6)) {
            BUSY.due("fold(" + ticket + ")", -1, x -> x.fold(ticket));
        }
        BUSY.due("a fifth fold", -5, x -> x.fold(6));
        NEW.due("fold(0) of none", -1, x -> x.fold(0));
        FULL.due("fold(12)", -1, x -> x.fold(12));
        for (int what : Refusals.beside(0, 3)) {
            BUSY.due("led(" + what + ")", -1, x -> x.led(what));
        }
    }

    private static void backUndoAndRedo() {
        NEW.due("no image", -5, x -> x.back());
        NEW.due("nothing to undo", -5, x -> x.undo());
        NEW.due("nothing to do again", -5, x -> x.redo());
        FULL.due("no image in all that", -5, x -> x.back());
        FULL.due("nothing to undo in all that", -5, x -> x.undo());
        FULL.due("nothing to do again in all that", -5, x -> x.redo());
        Refusals allUndone = new Refusals(RefusedTest::allUndone);
        allUndone.due("undo, all undone", -5, x -> x.undo());
        Refusals allRedone = new Refusals(RefusedTest::allRedone);
        allRedone.due("redo, all done again", -5, x -> x.redo());
    }

    private static LotNobodyWants allUndone() {
        LotNobodyWants x = Scenes.busy();
        for (int k = 0; k < 6; k++) {
            x.undo();
        }
        return x;
    }

    private static LotNobodyWants allRedone() {
        LotNobodyWants x = Scenes.busy();
        x.redo();
        x.redo();
        return x;
    }

    // ---- promises 34 to 43

    private static void bodyAndTrace() {
        for (int kind : Refusals.beside(0, 7)) {
            BUSY.due("body(" + kind + ")", -1, x -> x.body(kind));
            FULL.due("BAD ahead of FULL: body(" + kind + ")", -1, x -> x.body(kind));
        }
        FULL.due("a fifty-first, body(0)", -3, x -> x.body(0));
        FULL.due("a fifty-first, body(7)", -3, x -> x.body(7));
        for (int i : Refusals.beside(0, 7)) {
            BUSY.due("trace(" + i + ")", -1, x -> x.trace(i));
        }
        NEW.due("trace(0) of none", -1, x -> x.trace(0));
        NEW.due("act(0, 0, 0) of none", 0, x -> x.act(0, 0, 0));
        FULL.due("act(50, 0, 0) ahead of any other", 0, x -> x.act(50, 0, 0));
    }

    private static void keepAndRow() {
        for (int shelf : Refusals.beside(0, 5)) {
            BUSY.due("keep(" + shelf + ", -1)", -1, x -> x.keep(shelf, -1));
            BUSY.due("keep(" + shelf + ", 0)", -1, x -> x.keep(shelf, 0));
            BUSY.due("row(" + shelf + ", 0, 1)", -1, x -> x.row(shelf, 0, 1));
            BUSY.due("BAD ahead of -14: row(" + shelf + ", 0, -1)", -1, x -> x.row(shelf, 0, -1));
        }
        for (int body : Refusals.beside(-1, 7)) {
            BUSY.due("keep(0, " + body + ")", -1, x -> x.keep(0, body));
        }
        NEW.due("keep(0, 0) of no bodies", -1, x -> x.keep(0, 0));
        FULL.due("keep(0, 50)", -1, x -> x.keep(0, 50));
        for (int sort : Refusals.beside(0, 4)) {
            BUSY.due("row(0, " + sort + ", 1)", -1, x -> x.row(0, sort, 1));
            BUSY.due("BAD ahead of -14: row(0, " + sort + ", -1)", -1, x -> x.row(0, sort, -1));
        }
        for (int sort = 0; sort < 5; sort++) {
            int told = sort;
            BUSY.due("61 of sort " + sort, -1, x -> x.row(0, told, 61));
            BUSY.due("far more of sort " + sort, -1, x -> x.row(0, told, Integer.MAX_VALUE));
            BUSY.due("-1 of sort " + sort, -14, x -> x.row(0, told, -1));
            BUSY.due("far less of sort " + sort, -14, x -> x.row(0, told, Integer.MIN_VALUE));
        }
    }

    private static void putAndElement() {
        for (int shelf : Refusals.beside(0, 5)) {
            BUSY.due("put(" + shelf + ", 0, 1)", -1, x -> x.put(shelf, 0, 1));
            BUSY.due("BAD ahead of -13: put(" + shelf + ", -1, 1)", -1, x -> x.put(shelf, -1, 1));
            BUSY.due("element(" + shelf + ", 0)", NONE, x -> x.element(shelf, 0));
        }
        int[] places = {Integer.MIN_VALUE, -1, 0, 60, Integer.MAX_VALUE};
        for (int i : places) {
            BUSY.due("put on nothing at " + i, -11, x -> x.put(NO_SHELF, i, 1));
            BUSY.due("put on a body at " + i, -12, x -> x.put(BODY_SHELF, i, 1));
            BUSY.due("element of nothing at " + i, NONE, x -> x.element(NO_SHELF, i));
            BUSY.due("element of a body at " + i, NONE, x -> x.element(BODY_SHELF, i));
        }
        int[] rows = {0, 1, SHORTS, BOOLEANS};
        int[] lasts = {6, 4, 1, 2};
        for (int k = 0; k < 4; k++) {
            int shelf = rows[k];
            for (int i : Refusals.beside(0, lasts[k])) {
                BUSY.due("put(" + shelf + ", " + i + ", 1)", -13, x -> x.put(shelf, i, 1));
                BUSY.due("element(" + shelf + ", " + i + ")", NONE, x -> x.element(shelf, i));
            }
        }
    }

    private static void shift() {
        for (int shelf : Refusals.beside(0, 5)) {
            BUSY.due("shift from " + shelf, -1, x -> x.shift(shelf, 0, 0, 0, 1));
            BUSY.due("shift to " + shelf, -1, x -> x.shift(0, 0, shelf, 0, 1));
            BUSY.due("BAD ahead of -11, from " + shelf, -1, x -> x.shift(shelf, 0, NO_SHELF, 0, 1));
            BUSY.due("BAD ahead of -11, to " + shelf, -1, x -> x.shift(NO_SHELF, 0, shelf, 0, 1));
        }
        int[] counts = {Integer.MIN_VALUE, -1, 0, 1, 60};
        for (int n : counts) {
            BUSY.due("from nothing, " + n, -11, x -> x.shift(NO_SHELF, 0, 0, 0, n));
            BUSY.due("to nothing, " + n, -11, x -> x.shift(0, 0, NO_SHELF, 0, n));
            BUSY.due("a body to nothing, " + n, -11, x -> x.shift(BODY_SHELF, 0, NO_SHELF, 0, n));
            BUSY.due("nothing to a body, " + n, -11, x -> x.shift(NO_SHELF, 0, BODY_SHELF, 0, n));
            BUSY.due("from a body, " + n, -12, x -> x.shift(BODY_SHELF, 0, 0, 0, n));
            BUSY.due("to a body, " + n, -12, x -> x.shift(0, 0, BODY_SHELF, 0, n));
            BUSY.due("a body to itself, " + n, -12, x -> x.shift(BODY_SHELF, 0, BODY_SHELF, 0, n));
            BUSY.due("bytes to shorts, " + n, -12, x -> x.shift(0, 0, SHORTS, 0, n));
            BUSY.due("booleans to bytes, " + n, -12, x -> x.shift(BOOLEANS, 0, 0, 0, n));
        }
        int[][] noPlaces = {
            {-1, 0, 1}, {0, -1, 1}, {-1, 0, 0}, {0, -1, 0}, {0, 0, -1}, {0, 0, Integer.MIN_VALUE}, {8, 0, 0}, {0, 6, 0}, {7, 0, 1}, {0, 5, 1},
            {0, 0, 6}, {6, 0, 2}, {5, 0, 3}, {0, 4, 2}, {0, 3, 3}, {1, 1, Integer.MAX_VALUE}, {Integer.MAX_VALUE, 0, 1}, {0, Integer.MAX_VALUE, 1},
            {Integer.MAX_VALUE, 0, Integer.MAX_VALUE}, {Integer.MIN_VALUE, 0, Integer.MIN_VALUE}, {3, 2, -1}, {2, 1, -2}
        };
        for (int[] p : noPlaces) {
            BUSY.due("shift(0, " + p[0] + ", 1, " + p[1] + ", " + p[2] + ")", -13, x -> x.shift(0, p[0], 1, p[1], p[2]));
        }
    }

    private static void takenAndCount() {
        for (int shelf : Refusals.beside(0, 5)) {
            BUSY.due("taken(" + shelf + ", 0)", -1, x -> x.taken(shelf, 0));
        }
        int[] shelves = {0, BODY_SHELF, NO_SHELF};
        for (int shelf : shelves) {
            for (int k : Refusals.beside(0, 7)) {
                BUSY.due("taken(" + shelf + ", " + k + ")", -1, x -> x.taken(shelf, k));
            }
        }
        for (int k = 0; k < 8; k++) {
            int kind = k;
            BUSY.due("nothing taken for " + k, -11, x -> x.taken(NO_SHELF, kind));
            BUSY.due("a row taken for " + k, -12, x -> x.taken(0, kind));
            boolean under = k == 0 || k == 2 || k == 3 || k == 5;
            BUSY.due("a drunk taken for " + k, under ? 5 : -12, x -> x.taken(BODY_SHELF, kind));
        }
        for (int what : Refusals.beside(0, 5)) {
            BUSY.due("count(" + what + ")", -1, x -> x.count(what));
        }
    }
}
