/** Promises 26 to 33 and the second half of part 4 of the Terms: each sentence that names an edge, on its own. */
public final class EdgesDeedsTest {
    public static void main(String[] args) {
        wellOrNot();
        whatCantBeIsState();
        badSlippings();
        foldedFourTimes();
        foldedByAnyHolder();
        behindElevenZero();
        whatLedTells();
        refusedDeedsAreNotLed();
        noImage();
        whatAnImageKeeps();
        whatAnImageKeepsNot();
        ticketsThatCameSince();
        imageOfTwelve();
        latestImage();
        nothingToUndo();
        latestFirst();
        theSameNumberIsNone();
        fortyAtMost();
        fortyAgainAndAgain();
        otherCameBehind();
        whatIsNoChange();
        deedsAreNone();
        Check.finish();
    }

    private static void led(String call, LotNobodyWants x, int slippings, int well, int folds, int hours) {
        int[] want = {slippings, well, folds, hours};
        for (int what = 0; what < 4; what++) {
            Check.due(call + ", led " + what, x.led(what), want[what]);
        }
    }

    // ---- promise 26

    /** "A SLIPPING (well 1) or one that fails (0): HOLDER then": whatever its odds. */
    private static void wellOrNot() {
        LotNobodyWants x = Scenes.people(0, 12);
        x.ticket(0, 0);
        Check.due("odds 0", x.odds(1), 0);
        Check.due("fails", x.slip(1, 0), 0);
        Check.due("all stays", x.of(0, 4), 0);
        Check.due("goes well all the same", x.slip(1, 1), 1);
        Check.due("HOLDER", x.of(0, 4), 1);
        Check.due("odds 12", x.odds(0), 12);
        Check.due("fails all the same", x.slip(0, 0), 1);
        Check.due("goes well", x.slip(0, 1), 0);
        led("two of four", x, 4, 2, 0, 0);
        LotNobodyWants all = Scenes.people(6, 6, 6, 6, 6, 6);
        Scenes.tickets(all, 0, 0, 0, 0, 0, 0, 0, 0, 0, 0, 0, 0);
        for (int ticket = 0; ticket < 12; ticket++) {
            for (int to = 1; to < 6; to++) {
                Check.due("slip(" + (8 * ticket + to) + ", 1)", all.slip(8 * ticket + to, 1), to);
            }
            Check.due("HOLDER of " + ticket, all.of(ticket, 4), 5);
        }
        led("all of them", all, 60, 60, 0, 0);
    }

    /** "STATE: it can't be." */
    private static void whatCantBeIsState() {
        LotNobodyWants x = Scenes.people(0, 0, 0);
        Scenes.tickets(x, 0);
        x.ticket(0, 1);
        x.mend(2, 1, 1);
        for (int well = 0; well < 2; well++) {
            Check.due("to its own holder, " + well, x.slip(0, well), -5);
            Check.due("to a child, " + well, x.slip(2, well), -5);
            Check.due("a forged one can be, " + well, x.slip(9, 0), 0);
            for (int folds = 0; folds <= 4; folds++) {
                x.mend(0, 6, folds);
                Check.due("FOLDS " + folds + ", " + well, x.slip(1, 0), folds == 4 ? -5 : 0);
            }
            Check.due("HOLDER, " + well, x.of(0, 4), 0);
        }
        x.mend(0, 6, 0);
        x.mend(0, 4, 2);
        Check.due("from a child", x.slip(1, 1), 1);
        Check.due("not back to it", x.slip(2, 1), -5);
        x.mend(2, 1, 0);
        Check.due("a child no more", x.slip(2, 1), 2);
    }

    /** "BAD": tp, well; ahead of STATE. */
    private static void badSlippings() {
        LotNobodyWants x = Scenes.people(0, 0);
        x.ticket(0, 0);
        for (int tp = -10; tp <= 20; tp++) {
            if (tp != 0 && tp != 1) {
                Check.due("slip(" + tp + ", 1)", x.slip(tp, 1), -1);
            }
        }
        for (int well : Refusals.beside(0, 1)) {
            Check.due("well " + well, x.slip(1, well), -1);
            Check.due("BAD ahead of STATE, well " + well, x.slip(0, well), -1);
        }
        led("none was", x, 0, 0, 0, 0);
    }

    // ---- promises 27 and 28

    /** "a TICKET is FOLDED once more (4 at most)"; "FOLDS then"; "STATE: it is 4" */
    private static void foldedFourTimes() {
        LotNobodyWants x = Scenes.people(6, 6);
        Scenes.tickets(x, 0, 0, 0, 0, 0, 0, 0, 0, 0, 0, 0, 0);
        for (int ticket = 0; ticket < 12; ticket++) {
            for (int folds = 1; folds <= 4; folds++) {
                Check.due("fold of " + ticket, x.fold(ticket), folds);
            }
            Check.due("a fifth of " + ticket, x.fold(ticket), -5);
            Check.due("FOLDS of " + ticket, x.of(ticket, 6), 4);
        }
        led("folds", x, 0, 0, 48, 0);
        Check.due("fold(12)", x.fold(12), -1);
        Check.due("fold(-1)", x.fold(-1), -1);
        x.mend(11, 6, 3);
        Check.due("unfolded once, it may be once more", x.fold(11), 4);
        Check.due("and no more", x.fold(11), -5);
    }

    /** "by its HOLDER": whoever that is. */
    private static void foldedByAnyHolder() {
        LotNobodyWants x = Scenes.people(6, 6);
        x.ticket(0, 1);
        x.ticket(1, 0);
        x.mend(1, 1, 1);
        Check.due("a forged one", x.fold(0), 1);
        Check.due("a child's", x.fold(1), 1);
        x.mend(0, 6, 3);
        Check.due("a told number goes on", x.fold(0), 4);
        Check.due("it can be slipped no more", x.slip(1, 0), -5);
    }

    /** "an HOUR passes (behind 11: 0)" */
    private static void behindElevenZero() {
        LotNobodyWants x = new LotNobodyWants();
        for (int k = 1; k <= 36; k++) {
            Check.due("hour " + k, x.hour(), k % 12);
            Check.due("HOUR " + k, x.of(0, 7), k % 12);
            Check.due("hours " + k, x.led(3), k);
        }
        for (int from = 0; from < 12; from++) {
            x.mend(0, 7, from);
            Check.due("hour from " + from, x.hour(), from == 11 ? 0 : from + 1);
        }
    }

    // ---- promise 29

    /** "LED: SLIPPINGS (what 0), well (1), folds (2), hours (3). BAD." */
    private static void whatLedTells() {
        LotNobodyWants x = Scenes.people(0, 0);
        x.ticket(0, 0);
        x.slip(1, 0);
        led("one that fails", x, 1, 0, 0, 0);
        x.slip(1, 1);
        led("one that goes well", x, 2, 1, 0, 0);
        x.fold(0);
        led("a fold", x, 2, 1, 1, 0);
        x.hour();
        led("an hour", x, 2, 1, 1, 1);
        for (int what : Refusals.beside(0, 3)) {
            Check.due("led(" + what + ")", x.led(what), -1);
        }
    }

    /** "What is answered so changes nothing", and what is thought or told is no deed. */
    private static void refusedDeedsAreNotLed() {
        LotNobodyWants x = Scenes.people(0, 0);
        x.ticket(0, 0);
        x.slip(0, 1);
        x.slip(8, 1);
        x.slip(1, 2);
        x.fold(1);
        x.mend(0, 6, 4);
        x.fold(0);
        x.slip(1, 1);
        x.mend(0, 7, 5);
        x.mend(0, 4, 1);
        x.undo();
        x.redo();
        x.drawn(1, 3030, -1);
        x.rid(0, 3, 0);
        led("none", x, 0, 0, 0, 0);
    }

    // ---- promises 30 and 31

    /** "STATE: there is none." */
    private static void noImage() {
        LotNobodyWants x = new LotNobodyWants();
        Check.due("none", x.back(), -5);
        Check.due("of nothing", x.image(), 0);
        Check.due("now there is one", x.back(), 0);
        Check.due("and still", x.back(), 0);
    }

    /** "AN IMAGE keeps HOLDERS, FOLDS, HOUR, what LED tells." */
    private static void whatAnImageKeeps() {
        LotNobodyWants x = Scenes.people(0, 0, 0);
        Scenes.tickets(x, 0, 1);
        x.slip(1, 1);
        x.slip(8, 0);
        x.fold(1);
        x.hour();
        x.hour();
        Check.due("image: SLIPPINGS", x.image(), 2);
        Check.due("HOLDER is as it was", x.of(0, 4), 1);
        x.slip(2, 1);
        x.slip(10, 1);
        x.fold(0);
        x.fold(1);
        x.hour();
        x.mend(1, 4, 0);
        x.mend(0, 6, 4);
        x.mend(0, 7, 11);
        Check.due("back: SLIPPINGS", x.back(), 2);
        Check.due("HOLDER 0", x.of(0, 4), 1);
        Check.due("HOLDER 1", x.of(1, 4), 1);
        Check.due("FOLDS 0", x.of(0, 6), 0);
        Check.due("FOLDS 1", x.of(1, 6), 1);
        Check.due("HOUR", x.of(0, 7), 2);
        led("as it was", x, 2, 1, 1, 2);
        x.hour();
        Check.due("laid back once more", x.back(), 2);
        Check.due("HOUR once more", x.of(0, 7), 2);
    }

    /** .. and nothing else. */
    private static void whatAnImageKeepsNot() {
        LotNobodyWants x = Scenes.busy();
        x.image();
        x.mend(0, 0, 7);
        x.mend(0, 1, 1);
        x.mend(0, 2, 77);
        x.mend(0, 3, 7);
        x.mend(0, 5, 1);
        x.mend(0, 8, 7);
        x.mend(1, 2, 5);
        x.undo();
        x.law();
        Check.tell(x, "7");
        x.feed('1');
        x.body(3);
        x.act(8, 2, 1);
        x.put(0, 0, 9);
        int changes = x.count(3);
        x.person(3);
        x.back();
        int[] want = {7, 1, 77, 7, 0, 1};
        for (int what = 0; what < 6; what++) {
            if (what != 4) {
                Check.due("number " + what + " stays", x.of(0, what), want[what]);
            }
        }
        Check.due("SEEN stays", x.of(0, 8), 7);
        Check.due("PEOPLE stay", x.count(0), 5);
        Check.due("THE TAPE stays", x.count(2), 1);
        Check.due("CHANGES stay", x.count(3), changes);
        Check.due("BODIES stay", x.count(4), 9);
        Check.due("THE TRACE stays", x.trace(0), 40);
        Check.due("SHELVES stay", x.element(0, 0), 9);
        Check.due("THE LAW stays", x.odds(18), 7);
        Check.due("what was undone may be done again", x.redo(), 0);
        Check.due("it is", x.of(1, 2), 5);
    }

    /** "(TICKETS that came since as they are)" */
    private static void ticketsThatCameSince() {
        LotNobodyWants x = Scenes.people(0, 0);
        x.ticket(0, 0);
        x.image();
        x.ticket(0, 0);
        Check.bytes(x, 0, 0, 0, 3);
        x.tickets(0, 0, 1);
        x.slip(1, 1);
        x.slip(9, 1);
        x.fold(1);
        x.fold(2);
        Check.due("back", x.back(), 0);
        Check.due("the first as it was", x.of(0, 4), 0);
        Check.due("the second as it is", x.of(1, 4), 1);
        Check.due("its FOLDS, too", x.of(1, 6), 1);
        Check.due("the third's FOLDS", x.of(2, 6), 4);
        Check.due("all three are there", x.count(1), 3);
        Check.due("a new image has them", x.image(), 0);
        x.slip(8, 1);
        x.back();
        Check.due("the second as in the new one", x.of(1, 4), 1);
        LotNobodyWants y = Scenes.people(0, 0);
        y.image();
        y.ticket(0, 0);
        y.slip(1, 1);
        Check.due("an image of no TICKETS", y.back(), 0);
        Check.due("the ticket as it is", y.of(0, 4), 1);
    }

    /** All twelve TICKETS, HOUR and LED at their ends. */
    private static void imageOfTwelve() {
        LotNobodyWants x = Scenes.people(0, 0, 0, 0, 0, 0);
        for (int t = 0; t < 12; t++) {
            x.ticket(t % 6, 0);
            x.mend(t, 6, t % 5);
        }
        x.mend(0, 7, 11);
        x.image();
        x.hour();
        for (int t = 0; t < 12; t++) {
            x.mend(t, 6, 2);
            x.mend(t, 4, (t + 1) % 6);
            x.fold(t);
        }
        Check.due("back", x.back(), 0);
        for (int t = 0; t < 12; t++) {
            Check.due("HOLDER " + t, x.of(t, 4), t % 6);
            Check.due("FOLDS " + t, x.of(t, 6), t % 5);
        }
        Check.due("HOUR", x.of(0, 7), 11);
        led("nothing was", x, 0, 0, 0, 0);
    }

    /** "AN IMAGE is kept": the latest one. */
    private static void latestImage() {
        LotNobodyWants x = Scenes.people(0, 0);
        x.ticket(0, 0);
        for (int k = 1; k <= 20; k++) {
            x.slip(1 - x.of(0, 4), 1);
            Check.due("image " + k, x.image(), k);
        }
        x.slip(1, 1);
        Check.due("the latest", x.back(), 20);
        Check.due("its HOLDER", x.of(0, 4), 0);
    }

    // ---- promises 32 and 33

    /** "STATE: none." */
    private static void nothingToUndo() {
        LotNobodyWants x = Scenes.people(6);
        Check.due("undo", x.undo(), -5);
        Check.due("redo", x.redo(), -5);
        x.mend(0, 0, 7);
        Check.due("nothing was undone", x.redo(), -5);
        Check.due("the only one", x.undo(), 0);
        Check.due("no other", x.undo(), -5);
        Check.due("it may be done again", x.redo(), 0);
        Check.due("no other, too", x.redo(), -5);
        Check.due("and undone again", x.undo(), 0);
        Check.due("WARY", x.of(0, 0), 6);
    }

    /** "UNDONE, the latest first": each of the numbers of mend(), between its ends. */
    private static void latestFirst() {
        int[] most = {12, 1, 99, 9, 5, 1, 4, 11, 9};
        int[] first = {6, 0, 10, 0, 0, 0, 0, 0, 0};
        LotNobodyWants x = Scenes.people(6, 6, 6, 6, 6, 6);
        Scenes.tickets(x, 0, 0, 0, 0, 0, 0, 0, 0, 0, 0, 0, 0);
        for (int what = 0; what < 9; what++) {
            int number = what < 4 ? 5 : what < 7 ? 11 : 0;
            x.mend(number, what, most[what]);
            x.mend(number, what, 0);
        }
        Check.due("changes", x.count(3), 18);
        for (int what = 8; what >= 0; what--) {
            int number = what < 4 ? 5 : what < 7 ? 11 : 0;
            Check.due("undo of the latter, " + what, x.undo(), 2 * what + 1);
            Check.due("is the most, " + what, x.of(number, what), most[what]);
            Check.due("undo of the former, " + what, x.undo(), 2 * what);
            Check.due("is as at first, " + what, x.of(number, what), first[what]);
            Check.due("may be undone, " + what, x.count(3), 2 * what);
        }
        for (int what = 0; what < 9; what++) {
            int number = what < 4 ? 5 : what < 7 ? 11 : 0;
            Check.due("redo of the former, " + what, x.redo(), 17 - 2 * what);
            Check.due("is the most again, " + what, x.of(number, what), most[what]);
            Check.due("redo of the latter, " + what, x.redo(), 16 - 2 * what);
            Check.due("is the least again, " + what, x.of(number, what), 0);
        }
    }

    /** "telling the same number is none" */
    private static void theSameNumberIsNone() {
        LotNobodyWants x = Scenes.people(6);
        x.ticket(0, 0);
        int[] now = {6, 0, 10, 0, 0, 0, 0, 0, 0};
        for (int what = 0; what < 9; what++) {
            Check.due("the same, " + what, x.mend(0, what, now[what]), now[what]);
            Check.due("no change, " + what, x.count(3), 0);
        }
        x.mend(0, 0, 7);
        x.undo();
        for (int what = 0; what < 9; what++) {
            x.mend(0, what, now[what]);
        }
        Check.due("it may still be done again", x.redo(), 0);
        Check.due("it is", x.of(0, 0), 7);
    }

    /** "40 at most are kept" */
    private static void fortyAtMost() {
        for (int n = 38; n <= 43; n++) {
            LotNobodyWants x = Scenes.people(6);
            for (int k = 1; k <= n; k++) {
                x.mend(0, 2, 10 + k);
                Check.due("changes " + k + " of " + n, x.count(3), Math.min(40, k));
            }
            int kept = Math.min(40, n);
            for (int k = 1; k <= kept; k++) {
                Check.due("undo " + k + " of " + n, x.undo(), kept - k);
            }
            Check.due("no more of " + n, x.undo(), -5);
            Check.due("the oldest ones stay, " + n, x.of(0, 2), 10 + n - kept);
            for (int k = 1; k <= kept; k++) {
                Check.due("redo " + k + " of " + n, x.redo(), kept - k);
            }
            Check.due("no more to redo of " + n, x.redo(), -5);
            Check.due("all is as told, " + n, x.of(0, 2), 10 + n);
        }
    }

    /** Forty, some undone, others told: never more than forty, and none of those undone comes again. */
    private static void fortyAgainAndAgain() {
        LotNobodyWants x = Scenes.people(6);
        for (int k = 1; k <= 40; k++) {
            x.mend(0, 2, 10 + k);
        }
        x.undo();
        Check.due("39", x.count(3), 39);
        x.mend(0, 2, 99);
        Check.due("40 again", x.count(3), 40);
        Check.due("the undone one is gone", x.redo(), -5);
        x.mend(0, 2, 98);
        Check.due("still 40", x.count(3), 40);
        for (int k = 39; k >= 0; k--) {
            Check.due("undo to " + k, x.undo(), k);
        }
        Check.due("the first is gone", x.undo(), -5);
        Check.due("behind the first", x.of(0, 2), 11);
        x.mend(0, 2, 5);
        Check.due("one alone", x.count(3), 1);
        Check.due("all forty are gone", x.redo(), -5);
        Check.due("undo it", x.undo(), 0);
        Check.due("as it was", x.of(0, 2), 11);
        Check.due("redo it", x.redo(), 0);
        Check.due("as told", x.of(0, 2), 5);
    }

    /** "(as long as no other came behind)" */
    private static void otherCameBehind() {
        LotNobodyWants x = Scenes.people(6);
        x.mend(0, 0, 7);
        x.mend(0, 0, 8);
        x.mend(0, 0, 9);
        x.undo();
        x.undo();
        Check.due("one again", x.redo(), 1);
        x.mend(0, 3, 1);
        Check.due("another number came", x.redo(), -5);
        Check.due("three changes", x.count(3), 3);
        Check.due("undo TAKES", x.undo(), 2);
        Check.due("undo WARY", x.undo(), 1);
        Check.due("WARY", x.of(0, 0), 7);
        Check.due("redo WARY", x.redo(), 1);
        Check.due("redo TAKES", x.redo(), 0);
        Check.due("WARY then", x.of(0, 0), 8);
        Check.due("TAKES then", x.of(0, 3), 1);
    }

    /** What is refused, thought, or another call than mend() is no CHANGE and hides none. */
    private static void whatIsNoChange() {
        LotNobodyWants x = Scenes.people(6, 6);
        x.mend(0, 0, 7);
        x.mend(0, 0, 8);
        x.undo();
        x.mend(0, 0, 13);
        x.mend(0, 9, 1);
        x.mend(2, 0, 1);
        x.mend(0, 8, 10);
        x.person(3);
        x.ticket(0, 0);
        x.row(0, 0, 3);
        x.tickets(0, 0, 1);
        Check.tell(x, "5");
        x.body(1);
        x.act(0, 0, 0);
        x.keep(1, 0);
        x.image();
        x.back();
        x.rid(0, 3, 0);
        x.drawn(1, 101, 0);
        Check.due("one change", x.count(3), 1);
        Check.due("the other may be done again", x.redo(), 0);
        Check.due("WARY", x.of(0, 0), 8);
    }

    /** "deeds are none (HOLDER, FOLDS, HOUR by them, too)" */
    private static void deedsAreNone() {
        LotNobodyWants x = Scenes.people(0, 0);
        x.ticket(0, 0);
        x.slip(1, 1);
        x.fold(0);
        x.hour();
        Check.due("none to undo", x.undo(), -5);
        Check.due("no change", x.count(3), 0);
        x.mend(0, 7, 5);
        x.undo();
        x.slip(0, 1);
        x.fold(0);
        x.hour();
        Check.due("HOUR by deed", x.of(0, 7), 2);
        Check.due("may be done again all the same", x.redo(), 0);
        Check.due("HOUR as it was told", x.of(0, 7), 5);
        Check.due("HOLDER by deed stays", x.of(0, 4), 0);
        Check.due("FOLDS by deed stay", x.of(0, 6), 2);
        Check.due("undone", x.undo(), 0);
        Check.due("HOUR as it was ahead of the change", x.of(0, 7), 1);
    }
}
