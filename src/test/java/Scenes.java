/** Objects in states that several tests begin from. */
final class Scenes {
    private Scenes() {
    }

    static LotNobodyWants people(int... wary) {
        LotNobodyWants x = new LotNobodyWants();
        for (int w : wary) {
            x.person(w);
        }
        return x;
    }

    /** TICKETS that are real, one behind the other. */
    static void tickets(LotNobodyWants x, int... holders) {
        for (int holder : holders) {
            x.ticket(holder, 0);
        }
    }

    /** Something of all that there is; 3 is a CHILD, TICKETS 2 and 5 are FORGED, 6 has four FOLDS. */
    static LotNobodyWants busy() {
        LotNobodyWants x = people(2, 8, 5, 11);
        int[] holders = {0, 0, 1, 2, 3, 0, 1};
        for (int k = 0; k < 7; k++) {
            x.ticket(holders[k], k == 2 || k == 5 ? 1 : 0);
        }
        x.mend(3, 1, 1);
        x.mend(1, 2, 4);
        x.mend(1, 3, 2);
        x.mend(2, 3, 1);
        x.mend(6, 6, 4);
        x.mend(0, 8, 1);
        x.mend(0, 0, 3);
        x.mend(2, 2, 7);
        x.undo();
        x.undo();
        Check.tell(x, "14-w-n-f-h");
        x.feed('9');
        deedsAndImage(x);
        bodiesAndShelves(x);
        return x;
    }

    private static void deedsAndImage(LotNobodyWants x) {
        x.slip(1, 0);
        x.fold(1);
        x.hour();
        x.image();
        x.slip(9, 1);
        x.fold(3);
        x.hour();
        x.slip(8, 1);
    }

    /** A BODY of each KIND; 0 an EVE, 1 HOLDERS told (from 2 on a TICKET), 2 a BODY, 3 nothing, 4 shorts, 5 booleans. */
    private static void bodiesAndShelves(LotNobodyWants x) {
        for (int kind = 0; kind < 8; kind++) {
            x.body(kind);
        }
        x.act(7, 3, 5);
        Check.bytes(x, 0, 1, 2, 18, 25, 11, 33, 2);
        Check.bytes(x, 1, 2, -1, 1, 0, 1);
        x.keep(2, 5);
        x.row(4, 1, 2);
        x.put(4, 1, -300);
        x.row(5, 4, 3);
        x.put(5, 2, 1);
    }

    /** All of PEOPLE, TICKETS, BODIES and THE TAPE. */
    static LotNobodyWants full() {
        LotNobodyWants x = people(0, 12, 5, 6, 7, 8);
        for (int k = 0; k < 12; k++) {
            x.ticket(k % 6, 0);
        }
        for (int k = 0; k < 50; k++) {
            x.body(k % 8);
        }
        for (int k = 0; k < 120; k++) {
            x.feed(k % 2 == 0 ? '1' : '+');
        }
        Check.bytes(x, 0, 0, 0, 0);
        return x;
    }
}
