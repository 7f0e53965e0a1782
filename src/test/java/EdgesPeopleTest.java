/** Promises 1 to 9 and part 1 of the Terms: each sentence that names an edge, on its own. */
public final class EdgesPeopleTest {
    private static final int LEAST = Integer.MIN_VALUE, GREATEST = Integer.MAX_VALUE;

    public static void main(String[] args) {
        constants();
        aYearNobodyNoTickets();
        objectsAreApart();
        usedForAtMost512Calls();
        peopleAsTheyCome();
        wariest();
        ticketsAsTheyCome();
        whoMayHold();
        ticketsFromPlaceOn();
        ticketsByThrees();
        ticketsAreNotAsTheyMayBe();
        ticketsUntilFull();
        mendBecomesAndWas();
        ofHowManyHeHas();
        tapeHolds120();
        theTapeIsEmptyThen();
        Check.finish();
    }

    /** "BAD (-1) .. NOT (-2) .. FULL (-3); STATE (-5) .. VOID is -2000000000." */
    private static void constants() {
        Check.due("BAD", LotNobodyWants.BAD, -1);
        Check.due("NOT", LotNobodyWants.NOT, -2);
        Check.due("FULL", LotNobodyWants.FULL, -3);
        Check.due("STATE", LotNobodyWants.STATE, -5);
        Check.due("VOID", LotNobodyWants.VOID, -2000000000);
    }

    /** "LotNobodyWants(): A year, nobody, no tickets." */
    private static void aYearNobodyNoTickets() {
        LotNobodyWants x = new LotNobodyWants();
        for (int what = 0; what < 6; what++) {
            Check.due("new count(" + what + ")", x.count(what), 0);
        }
        for (int what = 0; what < 11; what++) {
            Check.due("new of(0, " + what + ")", x.of(0, what), what == 7 || what == 8 ? 0 : -1);
        }
        for (int what = 0; what < 4; what++) {
            Check.due("new led(" + what + ")", x.led(what), 0);
        }
        Check.due("new safe()", x.safe(), 0);
        Check.due("new likeliest()", x.likeliest(), -2);
        Check.due("new half()", x.half(), -2);
        Check.due("new trace(0)", x.trace(0), -1);
        Check.due("new undo()", x.undo(), -5);
        Check.due("new redo()", x.redo(), -5);
        Check.due("new back()", x.back(), -5);
        for (int shelf = 0; shelf < 6; shelf++) {
            Check.due("new shelf " + shelf, x.taken(shelf, 0), -11);
        }
        Check.due("the tape is empty", x.law(), -100);
        Check.due("the first one", x.person(6), 0);
        Check.due("the first ticket", x.ticket(0, 0), 0);
        Check.due("the first body", x.body(0), 0);
        Check.due("the first byte", x.feed('1'), 1);
    }

    /** "All memory is the class's own": but one object's is not another's. */
    private static void objectsAreApart() {
        Refusals untouched = new Refusals(LotNobodyWants::new);
        untouched.leavesAll("a busy object beside a new one", x -> Scenes.busy().count(0));
        LotNobodyWants a = Scenes.people(1, 2);
        LotNobodyWants b = Scenes.people(3);
        a.ticket(1, 0);
        Check.tell(a, "7");
        b.feed('9');
        Check.due("people of the one", a.count(0), 2);
        Check.due("people of the other", b.count(0), 1);
        Check.due("tickets of the other", b.count(1), 0);
        Check.due("tape of the one", a.count(2), 0);
        b.person(3);
        b.ticket(1, 0);
        Check.due("law of the one", a.odds(0), 7);
        Check.due("none of the other", b.odds(0), 9);
    }

    /** "An object is used for at most 512 calls after it has been made." */
    private static void usedForAtMost512Calls() {
        LotNobodyWants x = Scenes.people(0, 0);
        x.ticket(0, 0);
        for (int k = 0; k < 254; k++) {
            x.slip(1, 1);
            x.slip(0, 1);
        }
        Check.due("the 512th call", x.led(1), 508);
        LotNobodyWants y = new LotNobodyWants();
        for (int k = 1; k < 512; k++) {
            y.hour();
        }
        Check.due("the 512th hour", y.hour(), 512 % 12);
        LotNobodyWants z = Scenes.people(0);
        for (int k = 0; k < 510; k++) {
            z.mend(0, 2, k % 2);
        }
        Check.due("undone by the 512th call", z.undo(), 39);
    }

    /** "PEOPLE 0 .. 5, as they come"; "FULL: 6". */
    private static void peopleAsTheyCome() {
        LotNobodyWants x = new LotNobodyWants();
        for (int one = 0; one < 6; one++) {
            Check.due("nobody yet, " + one, x.of(one, 0), -1);
            Check.due("person " + one, x.person(12 - one), one);
            Check.due("WARY " + one, x.of(one, 0), 12 - one);
            Check.due("CHILD 0 at first, " + one, x.of(one, 1), 0);
            Check.due("PRICE 10 at first, " + one, x.of(one, 2), 10);
            Check.due("TAKES 0 at first, " + one, x.of(one, 3), 0);
            Check.due("how many " + one, x.count(0), one + 1);
        }
        Check.due("a seventh", x.person(0), -3);
        Check.due("six", x.count(0), 6);
        Check.due("a seventh's WARY", x.of(6, 0), -1);
    }

    /** "WARY (0 .. 12 ..": both ends, by person() and in the odds. */
    private static void wariest() {
        LotNobodyWants x = new LotNobodyWants();
        Check.due("person(-1)", x.person(-1), -1);
        Check.due("person(13)", x.person(13), -1);
        Check.due("person(least)", x.person(LEAST), -1);
        Check.due("person(greatest)", x.person(GREATEST), -1);
        Check.due("none came", x.count(0), 0);
        Check.due("person(0)", x.person(0), 0);
        Check.due("person(12)", x.person(12), 1);
        Check.due("WARY 0", x.of(0, 0), 0);
        Check.due("WARY 12", x.of(1, 0), 12);
        Scenes.tickets(x, 0, 1);
        Check.due("on the wariest", x.odds(1), 0);
        Check.due("on the least wary", x.odds(8), 12);
    }

    /** "TICKETS 0 .. 11, as they come"; "forged 0, 1"; "FOLDS 0 at first"; "FULL: 12". */
    private static void ticketsAsTheyCome() {
        LotNobodyWants x = Scenes.people(6, 6, 6, 6, 6, 6);
        for (int k = 0; k < 12; k++) {
            Check.due("no ticket yet, " + k, x.of(k, 4), -1);
            Check.due("ticket " + k, x.ticket(5 - k % 6, k % 2), k);
            Check.due("HOLDER " + k, x.of(k, 4), 5 - k % 6);
            Check.due("FORGED " + k, x.of(k, 5), k % 2);
            Check.due("FOLDS " + k, x.of(k, 6), 0);
            Check.due("how many " + k, x.count(1), k + 1);
        }
        Check.due("a thirteenth", x.ticket(0, 0), -3);
        Check.due("a thirteenth, forged", x.ticket(5, 1), -3);
        Check.due("twelve", x.count(1), 12);
        Check.due("a thirteenth's HOLDER", x.of(12, 4), -1);
    }

    /** "HOLDER (one of PEOPLE)"; "children who may hold and not be given". */
    private static void whoMayHold() {
        LotNobodyWants x = new LotNobodyWants();
        for (int people = 0; people < 6; people++) {
            Check.due("the next one can't hold, " + people, x.ticket(people, 0), -1);
            x.person(6);
            Check.due("now he can, " + people, x.ticket(people, 0), people);
            Check.due("mend to the next one, " + people, x.mend(0, 4, people + 1), -1);
            Check.due("mend to him, " + people, x.mend(0, 4, people), Math.max(0, people - 1));
        }
        Check.due("ticket(6, 0)", x.ticket(6, 0), -1);
        Check.due("ticket(-1, 0)", x.ticket(-1, 0), -1);
        x.mend(5, 1, 1);
        Check.due("a child's ticket", x.ticket(5, 0), 6);
        Check.due("mended to a child", x.mend(6, 4, 0) + x.mend(6, 4, 5), 5);
        Check.due("a child holds it", x.of(6, 4), 5);
    }

    /** "from place i on"; "(0 with i below 0)"; "a SHELF that holds nothing is missing". */
    private static void ticketsFromPlaceOn() {
        LotNobodyWants x = Scenes.people(6, 6);
        Check.bytes(x, 5, 0, 1, 4, 1, 0, 2, 1);
        int[] none = {LEAST, -2, -1, 5, 6, 7, 8, 60, GREATEST - 1, GREATEST};
        for (int i : none) {
            Check.due("tickets(5, " + i + ", 12)", x.tickets(5, i, 12), 0);
        }
        Check.due("from no row", x.tickets(0, 0, 12), 0);
        Check.due("from no row, i below 0", x.tickets(0, -1, 12), 0);
        x.row(0, 0, 0);
        Check.due("from a row of none", x.tickets(0, 0, 12), 0);
        Check.due("none came", x.count(1), 0);
        Check.due("from the last place of three", x.tickets(5, 4, 12), 0);
        Check.due("from 3", x.tickets(5, 3, 12), 1);
        Check.due("from 0", x.tickets(5, 0, 12), 2);
        Check.due("all came", x.count(1), 3);
        Check.due("FOLDS 0", x.of(0, 6), 2);
        Check.due("FOLDS 1", x.of(1, 6), 4);
        Check.due("FORGED 1", x.of(1, 5), 1);
        Check.due("HOLDER 2", x.of(2, 4), 1);
        Check.due("none of it is a change", x.count(3), 0);
        for (int sort = 1; sort < 5; sort++) {
            x.row(1, sort, 3);
            Check.due("from sort " + sort, x.tickets(1, 0, 1), -12);
        }
        x.body(0);
        x.keep(1, 0);
        Check.due("from a body", x.tickets(1, 0, 1), -12);
        Check.due("from shelf -1", x.tickets(-1, 0, 1), -1);
        Check.due("from shelf 6", x.tickets(6, 0, 1), -1);
    }

    /** "n (1 .. 12) of them"; "it ends where the row .. ends (within a three, too)". */
    private static void ticketsByThrees() {
        for (int size = 0; size <= 39; size++) {
            LotNobodyWants x = Scenes.people(6);
            x.row(0, 0, size);
            Check.due("n 0, size " + size, x.tickets(0, 0, 0), -1);
            Check.due("n 13, size " + size, x.tickets(0, 0, 13), -1);
            Check.due("n -1, size " + size, x.tickets(0, 0, -1), -1);
            Check.due("n greatest, size " + size, x.tickets(0, 0, GREATEST), -1);
            Check.due("n 12, size " + size, x.tickets(0, 0, 12), Math.min(12, size / 3));
            Check.due("came, size " + size, x.count(1), Math.min(12, size / 3));
        }
        for (int n = 1; n <= 12; n++) {
            LotNobodyWants x = Scenes.people(6);
            x.row(0, 0, 60);
            Check.due("n " + n, x.tickets(0, 0, n), n);
            Check.due("came " + n, x.count(1), n);
        }
    }

    /** "one is not as it may be .. : those ahead came". */
    private static void ticketsAreNotAsTheyMayBe() {
        int[][] threes = {{-1, 0, 0}, {2, 0, 0}, {-128, 0, 0}, {0, -1, 0}, {0, 2, 0}, {0, 127, 0}, {0, 0, -1}, {0, 0, 5}, {0, 0, -128}};
        for (int[] t : threes) {
            LotNobodyWants x = Scenes.people(6, 6);
            Check.bytes(x, 0, 1, 1, 4, t[0], t[1], t[2], 0, 0, 0);
            String call = "with " + t[0] + " " + t[1] + " " + t[2];
            Check.due(call + " none behind it come", x.tickets(0, 0, 3), 1);
            Check.due(call + " the one ahead came", x.of(0, 6), 4);
            Check.due(call + " itself", x.tickets(0, 3, 3), 0);
            Check.due(call + " one alone", x.count(1), 1);
            Check.due(call + " behind it", x.tickets(0, 6, 3), 1);
        }
        LotNobodyWants nobody = new LotNobodyWants();
        nobody.row(0, 0, 3);
        Check.due("of nobody", nobody.tickets(0, 0, 1), 0);
    }

    /** "or TICKETS are FULL: those ahead came". */
    private static void ticketsUntilFull() {
        for (int there = 9; there <= 12; there++) {
            LotNobodyWants x = Scenes.people(6);
            for (int k = 0; k < there; k++) {
                x.ticket(0, 1);
            }
            x.row(0, 0, 60);
            Check.due("two, with " + there, x.tickets(0, 0, 2), Math.min(2, 12 - there));
            Check.due("then " + there, x.count(1), Math.min(12, there + 2));
            Check.due("twelve, with " + there, x.tickets(0, 0, 12), Math.max(0, 10 - there));
            Check.due("none more, with " + there, x.tickets(0, 0, 12), 0);
        }
    }

    /** "becomes v: what it was"; the ends of each number; "number 0 for these, another: BAD". */
    private static void mendBecomesAndWas() {
        int[] most = {12, 1, 99, 9, 5, 1, 4, 11, 9};
        int[] first = {6, 0, 10, 0, 0, 0, 0, 0, 0};
        for (int what = 0; what < 9; what++) {
            int last = what < 4 ? 5 : what < 7 ? 11 : 0;
            for (int number = 0; number <= last; number += Math.max(1, last)) {
                LotNobodyWants x = Scenes.people(6, 6, 6, 6, 6, 6);
                Scenes.tickets(x, 0, 0, 0, 0, 0, 0, 0, 0, 0, 0, 0, 0);
                String call = "mend(" + number + ", " + what + ")";
                Check.due(call + " one more", x.mend(number, what, most[what] + 1), -1);
                Check.due(call + " one less", x.mend(number, what, -1), -1);
                Check.due(call + " is as at first", x.of(number, what), first[what]);
                Check.due(call + " to the most", x.mend(number, what, most[what]), first[what]);
                Check.due(call + " is the most", x.of(number, what), most[what]);
                Check.due(call + " the most once more", x.mend(number, what, most[what]), most[what]);
                Check.due(call + " is one change", x.count(3), 1);
                Check.due(call + " to the least", x.mend(number, what, 0), most[what]);
                Check.due(call + " is the least", x.of(number, what), 0);
                Check.due(call + " are two changes", x.count(3), 2);
                Check.due(call + " one number on", x.mend(last + 1, what, 1), -1);
                Check.due(call + " number -1", x.mend(-1, what, 1), -1);
                Check.due(call + " has no other one", x.of(last + 1, what), -1);
            }
        }
        LotNobodyWants x = Scenes.people(6);
        Check.due("what 8 is taken", x.mend(0, 8, 1), 0);
        Check.due("what 9 is not", x.mend(0, 9, 1), -1);
        Check.due("what 10 is not", x.mend(0, 10, 1), -1);
        Check.due("what -1 is not", x.mend(0, -1, 1), -1);
    }

    /** "of one 9 how many TICKETS he has, 10 how many real ones". */
    private static void ofHowManyHeHas() {
        LotNobodyWants x = Scenes.people(6, 6);
        Check.due("none", x.of(0, 9), 0);
        Check.due("none real", x.of(0, 10), 0);
        for (int k = 1; k <= 12; k++) {
            x.ticket(1, k % 3 == 0 ? 1 : 0);
            Check.due("has " + k, x.of(1, 9), k);
            Check.due("has real of " + k, x.of(1, 10), k - k / 3);
            Check.due("the other one has none of " + k, x.of(0, 9), 0);
        }
        x.mend(0, 6, 4);
        x.mend(2, 6, 4);
        Check.due("folded ones, too", x.of(1, 9), 12);
        Check.due("folded real ones, too", x.of(1, 10), 8);
        x.mend(1, 1, 1);
        Check.due("a child's, too", x.of(1, 10), 8);
        Check.due("what 11", x.of(1, 11), -1);
        Check.due("nobody's", x.of(2, 9), -1);
        Check.due("nobody's real ones", x.of(2, 10), -1);
        Check.due("-1's", x.of(-1, 9), -1);
        x.mend(0, 5, 1);
        Check.due("a real one becomes forged", x.of(1, 10), 7);
        x.mend(2, 5, 0);
        Check.due("a forged one becomes real", x.of(1, 10), 8);
    }

    /** "A byte (0 .. 255) comes to THE TAPE: how many it has. BAD, FULL (120)." */
    private static void tapeHolds120() {
        LotNobodyWants x = new LotNobodyWants();
        Check.due("feed(-1)", x.feed(-1), -1);
        Check.due("feed(256)", x.feed(256), -1);
        Check.due("none came", x.count(2), 0);
        for (int k = 1; k <= 120; k++) {
            Check.due("feed " + k, x.feed(k == 1 ? 0 : k == 2 ? 255 : '1'), k);
        }
        Check.due("one more", x.feed('1'), -3);
        Check.due("of 120", x.count(2), 120);
        Check.due("read from its first byte on", x.law(), -100);
        for (int k = 1; k <= 120; k++) {
            x.feed(k % 2 == 0 ? '+' : '0');
        }
        Check.due("its last byte is read: it ends too early", x.law(), -220);
        for (int k = 1; k < 120; k++) {
            x.feed(k % 2 == 0 ? '+' : '0');
        }
        Check.due("the last of 120", x.feed('7'), 120);
        Check.due("all 120", x.law(), 1);
        x.person(0);
        x.person(0);
        x.ticket(0, 0);
        Check.due("by the last two", x.odds(1), 7);
        for (int k = 1; k <= 120; k++) {
            x.feed(k == 120 ? 'x' : k % 2 == 0 ? '-' : '1');
        }
        Check.due("a fault at the last byte", x.law(), -219);
    }

    /** "THE TAPE becomes THE LAW: 1; -100 less its FAULT; THE TAPE is empty then." */
    private static void theTapeIsEmptyThen() {
        LotNobodyWants x = Scenes.people(0, 0);
        x.ticket(0, 0);
        Check.due("an empty tape", x.law(), -100);
        Check.due("no law yet", x.odds(1), 12);
        Check.due("a text", Check.tell(x, "3"), 1);
        Check.due("the tape is empty", x.count(2), 0);
        Check.due("the text counts", x.odds(1), 3);
        Check.due("once more is an empty one", x.law(), -100);
        Check.due("the text stays", x.odds(1), 3);
        Check.due("a fault", Check.tell(x, "4*5+"), -104);
        Check.due("the tape is empty then, too", x.count(2), 0);
        Check.due("the text stays then, too", x.odds(1), 3);
        Check.due("the next byte is the first", x.feed('5'), 1);
        Check.due("a text of it", x.law(), 1);
        Check.due("is the law now", x.odds(1), 5);
    }
}
