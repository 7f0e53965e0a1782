/** Promises 34 to 43 and part 5 of the Terms: each sentence that names an edge, on its own. */
public final class EdgesShelvesTest {
    private static final long NONE = Long.MIN_VALUE;
    private static final int GREATEST = Integer.MAX_VALUE, LEAST = Integer.MIN_VALUE;

    public static void main(String[] args) {
        bodiesAsTheyCome();
        kindsZeroToSeven();
        actsZeroToThree();
        numberOfEachBody();
        xWraps();
        noTraceThen();
        traceOfTheLatest();
        whatAShelfHolds();
        sixShelves();
        rowSizes();
        rowSorts();
        zeroAtFirst();
        lowestBits();
        places();
        elementOfNothing();
        shiftedAsTheyWere();
        shiftEdges();
        shiftSorts();
        shiftRefused();
        takenForAKind();
        takenRefused();
        counts();
        Check.finish();
    }

    private static LotNobodyWants ofAllKinds() {
        LotNobodyWants x = new LotNobodyWants();
        for (int kind = 0; kind < 8; kind++) {
            x.body(kind);
        }
        return x;
    }

    private static void elements(String call, LotNobodyWants x, int shelf, long... want) {
        for (int i = 0; i < want.length; i++) {
            Check.due(call + ", place " + i, x.element(shelf, i), want[i]);
        }
        Check.due(call + ", behind all", x.element(shelf, want.length), NONE);
    }

    // ---- BODIES and ACTS

    /** "BODIES 0 .. 49 are kept by call"; "FULL" */
    private static void bodiesAsTheyCome() {
        LotNobodyWants x = new LotNobodyWants();
        for (int k = 0; k < 50; k++) {
            Check.due("no act yet, " + k, x.act(k, 0, 1), 0);
            Check.due("body " + k, x.body(7 - k % 8), k);
            Check.due("how many " + k, x.count(4), k + 1);
        }
        Check.due("a fifty-first", x.body(0), -3);
        Check.due("fifty", x.count(4), 50);
        for (int k = 0; k < 50; k++) {
            x.keep(0, k);
            Check.due("KIND of " + k, x.taken(0, 0), 7 - k % 8);
        }
        Check.due("the last one's act", x.act(49, 2, 0), 49);
        Check.due("no fifty-first's", x.act(50, 2, 0), 0);
    }

    /** "A BODY of a KIND (0 .. 7) .. BAD" */
    private static void kindsZeroToSeven() {
        LotNobodyWants x = new LotNobodyWants();
        for (int kind : Refusals.beside(0, 7)) {
            Check.due("body(" + kind + ")", x.body(kind), -1);
        }
        Check.due("none came", x.count(4), 0);
        Check.due("body(0)", x.body(0), 0);
        Check.due("body(7)", x.body(7), 1);
        LotNobodyWants full = Scenes.full();
        Check.due("BAD ahead of FULL", full.body(8), -1);
        Check.due("FULL", full.body(7), -3);
    }

    /** "An ACT (0 .. 3) of a BODY with x": each of each KIND, whose number is its own, with x 10. */
    private static void actsZeroToThree() {
        int[][] want = {
            {10, 20, 10, 20 - 1},
            {10 + 1 + 3, 28, 10 ^ 1, 28},
            {12, -24, 10 ^ 2, -24 - 3},
            {13, -28, (10 ^ 3) * 3, -28 - 6},
            {17, 34, 10 ^ 4, 34 - 5 ^ 5},
            {15, -32, (10 ^ 5) * 3 - 7, -32 - 5 + 1},
            {32, 64, 10 ^ 6, 64 - 7},
            {33, 66 + 5, 10 ^ 7, 71 - 6}
        };
        LotNobodyWants x = ofAllKinds();
        for (int kind = 0; kind < 8; kind++) {
            for (int act = 0; act < 4; act++) {
                Check.due("act " + act + " of KIND " + kind, x.act(kind, act, 10), want[kind][act]);
            }
        }
        for (int act : Refusals.beside(0, 3)) {
            Check.due("act " + act, x.act(7, act, 10), 0);
        }
        for (int body : Refusals.beside(0, 7)) {
            Check.due("of body " + body, x.act(body, 0, 10), 0);
        }
    }

    /** "n its number": not its KIND. */
    private static void numberOfEachBody() {
        LotNobodyWants x = new LotNobodyWants();
        for (int k = 0; k < 50; k++) {
            x.body(k < 25 ? 0 : 1);
        }
        for (int k = 0; k < 50; k++) {
            Check.due("slips of " + k, x.act(k, 0, 100), k < 25 ? 100 + k : 103 + k);
            Check.due("proves of " + k, x.act(k, 2, 100), 100 ^ k);
        }
    }

    /** "x (an int that wraps)" */
    private static void xWraps() {
        LotNobodyWants x = ofAllKinds();
        Check.due("slips of the greatest", x.act(1, 0, GREATEST), LEAST + 3);
        Check.due("slips just below", x.act(1, 0, GREATEST - 4), GREATEST);
        Check.due("slips of the next", x.act(1, 0, GREATEST - 3), LEAST);
        Check.due("folds of half", x.act(0, 1, 1 << 30), LEAST);
        Check.due("folds of the greatest", x.act(0, 1, GREATEST), -2);
        Check.due("folds of the least", x.act(0, 1, LEAST), 0);
        Check.due("less the least", x.act(2, 1, (1 << 30) - 2), LEAST);
        Check.due("x + 1 of the greatest", x.act(3, 1, GREATEST), -2 * (LEAST + 3));
        Check.due("three times", x.act(3, 2, GREATEST), (GREATEST ^ 3) * 3);
        Check.due("proves of the least", x.act(0, 2, LEAST), LEAST);
        Check.due("tells of the least", x.act(0, 3, LEAST), -1);
        Check.due("tells below the least", x.act(2, 3, (1 << 30) - 2), LEAST - 3);
        Check.due("twice", x.act(6, 0, GREATEST), 2 * (GREATEST + 6));
        Check.due("less 1 at the least", x.act(7, 0, (1 << 30) - 7), GREATEST);
    }

    /** "0, and no TRACE then: no such BODY, ACT." */
    private static void noTraceThen() {
        int[][] none = {{8, 0}, {-1, 0}, {0, 4}, {0, -1}, {8, 4}, {LEAST, LEAST}, {GREATEST, GREATEST}};
        for (int[] call : none) {
            LotNobodyWants x = ofAllKinds();
            x.act(0, 3, 1);
            Check.due("a trace", x.count(5), 4);
            Check.due("act(" + call[0] + ", " + call[1] + ")", x.act(call[0], call[1], 5), 0);
            Check.due("no TRACE then", x.count(5), 0);
            Check.due("no first body", x.trace(0), -1);
        }
        LotNobodyWants x = new LotNobodyWants();
        Check.due("no body at all", x.act(0, 0, 5), 0);
    }

    /** "numbers of the bodies that ran in the latest act(), as they began"; "THE TRACE's i-th body. BAD." */
    private static void traceOfTheLatest() {
        LotNobodyWants x = ofAllKinds();
        Check.due("none ran yet", x.trace(0), -1);
        x.act(5, 3, 1);
        int[] longest = {61, 2, 41, 30, 10, 1, 60, 40, 11, 1};
        for (int i = 0; i < 10; i++) {
            Check.due("trace(" + i + ")", x.trace(i), longest[i]);
        }
        Check.due("all that ran", x.count(5), 10);
        int[] bad = {LEAST, -1, 10, 23, 24, 25, GREATEST};
        for (int i : bad) {
            Check.due("trace(" + i + ")", x.trace(i), -1);
        }
        x.act(4, 0, 1);
        Check.due("the latest alone", x.trace(0), 20);
        Check.due("its second", x.trace(1), 1);
        Check.due("not the one ahead's third", x.trace(2), -1);
        Check.due("two ran", x.count(5), 2);
        int[][] ran = {{1}, {20, 1}, {1}, {1}, {20, 1}, {1}, {70, 1}, {81, 70, 1}};
        for (int kind = 0; kind < 8; kind++) {
            x.act(kind, 0, 1);
            for (int i = 0; i < ran[kind].length; i++) {
                Check.due("slips of KIND " + kind + ", " + i, x.trace(i), ran[kind][i]);
            }
            Check.due("no more of KIND " + kind, x.trace(ran[kind].length), -1);
        }
        x.body(8);
        x.keep(0, 3);
        Check.due("other calls leave it", x.count(5), 3);
    }

    // ---- SHELVES

    /** "A SHELF holds nothing (body -1), or a BODY: 1. BAD." */
    private static void whatAShelfHolds() {
        LotNobodyWants x = ofAllKinds();
        Check.due("nothing at first", x.taken(0, 0), -11);
        Check.due("nothing again", x.keep(0, -1), 1);
        Check.due("the first body", x.keep(0, 0), 1);
        Check.due("its KIND", x.taken(0, 0), 0);
        Check.due("the last body", x.keep(0, 7), 1);
        Check.due("the last's KIND", x.taken(0, 0), 7);
        for (int body : Refusals.beside(-1, 7)) {
            Check.due("body " + body, x.keep(0, body), -1);
        }
        Check.due("the last is still there", x.taken(0, 0), 7);
        x.row(0, 0, 1);
        Check.due("a row in its place", x.taken(0, 0), -12);
        x.keep(0, 1);
        Check.due("a body in the row's", x.put(0, 0, 1), -12);
        x.keep(0, -1);
        Check.due("nothing in the body's", x.put(0, 0, 1), -11);
        LotNobodyWants none = new LotNobodyWants();
        Check.due("no body is", none.keep(0, 0), -1);
        Check.due("nothing is", none.keep(5, -1), 1);
    }

    /** "SHELVES 0 .. 5": each apart. */
    private static void sixShelves() {
        LotNobodyWants x = ofAllKinds();
        for (int shelf = 0; shelf < 6; shelf++) {
            Check.due("row on " + shelf, x.row(shelf, 3, 60), 1);
            Check.due("put on " + shelf, x.put(shelf, 0, 100 + shelf), 1);
            Check.due("put at the end of " + shelf, x.put(shelf, 59, 200 + shelf), 1);
        }
        for (int shelf = 0; shelf < 6; shelf++) {
            Check.due("first on " + shelf, x.element(shelf, 0), 100 + shelf);
            Check.due("last on " + shelf, x.element(shelf, 59), 200 + shelf);
        }
        for (int shelf : Refusals.beside(0, 5)) {
            Check.due("keep on " + shelf, x.keep(shelf, 0), -1);
            Check.due("nothing on " + shelf, x.keep(shelf, -1), -1);
            Check.due("row on " + shelf, x.row(shelf, 0, 0), -1);
            Check.due("put on " + shelf, x.put(shelf, 0, 0), -1);
            Check.due("element on " + shelf, x.element(shelf, 0), NONE);
            Check.due("taken from " + shelf, x.taken(shelf, 0), -1);
        }
        for (int shelf = 0; shelf < 6; shelf++) {
            x.keep(shelf, shelf + 1);
        }
        for (int shelf = 0; shelf < 6; shelf++) {
            Check.due("the body on " + shelf, x.taken(shelf, 0), shelf + 1);
        }
    }

    /** "of 0 .. 60 elements"; "BAD (sort, n above 60); -14" */
    private static void rowSizes() {
        LotNobodyWants x = new LotNobodyWants();
        for (int n = 0; n <= 60; n++) {
            Check.due("row of " + n, x.row(0, 0, n), 1);
            Check.due("its last place, " + n, x.put(0, n - 1, 1), n == 0 ? -13 : 1);
            Check.due("behind it, " + n, x.put(0, n, 1), -13);
        }
        x.put(0, 59, 7);
        int[] tooMany = {61, 62, 120, GREATEST};
        for (int n : tooMany) {
            Check.due("row of " + n, x.row(0, 0, n), -1);
        }
        int[] belowZero = {-1, -2, -60, LEAST};
        for (int n : belowZero) {
            Check.due("row of " + n, x.row(0, 0, n), -14);
            Check.due("bad sort and " + n, x.row(0, 5, n), -1);
            Check.due("bad shelf and " + n, x.row(6, 0, n), -1);
        }
        Check.due("the row is as it was", x.element(0, 59), 7);
    }

    /** "a ROW: of 0 bytes, 1 shorts, 2 ints, 3 longs, 4 booleans" */
    private static void rowSorts() {
        LotNobodyWants x = new LotNobodyWants();
        for (int sort = 0; sort < 5; sort++) {
            Check.due("sort " + sort, x.row(0, sort, 1), 1);
        }
        for (int sort : Refusals.beside(0, 4)) {
            Check.due("sort " + sort, x.row(0, sort, 1), -1);
        }
        x.put(0, 0, 9);
        Check.due("booleans are still there", x.element(0, 0), 1);
    }

    /** "0 at first (false)": also where another ROW was. */
    private static void zeroAtFirst() {
        for (int sort = 0; sort < 5; sort++) {
            LotNobodyWants x = ofAllKinds();
            x.row(0, sort, 60);
            for (int i = 0; i < 60; i++) {
                Check.due("at first, sort " + sort, x.element(0, i), 0);
                x.put(0, i, -1);
            }
            x.row(0, (sort + 1) % 5, 30);
            Check.due("anew, the first", x.element(0, 0), 0);
            Check.due("anew, the last", x.element(0, 29), 0);
            x.row(0, sort, 60);
            Check.due("anew at full length, behind the shorter one", x.element(0, 30), 0);
            Check.due("anew at full length, the last", x.element(0, 59), 0);
            x.put(0, 59, -1);
            x.keep(0, 0);
            x.keep(0, -1);
            x.row(0, sort, 60);
            Check.due("behind a body and nothing", x.element(0, 59), 0);
        }
    }

    /** "what is put in keeps its lowest bits (a boolean: whether it is not 0; 1 or 0)" */
    private static void lowestBits() {
        long[] values = {
            0, 1, 2, 126, 127, 128, 129, 254, 255, 256, 257, -1, -127, -128, -129, -256, -257, 32766, 32767, 32768, 65535, 65536,
            -32768, -32769, 2147483646L, 2147483647L, 2147483648L, 4294967295L, 4294967296L, 4294967297L, -2147483648L, -2147483649L,
            Long.MAX_VALUE, Long.MAX_VALUE - 1, Long.MIN_VALUE + 1, 1L << 62
        };
        for (int sort = 0; sort < 5; sort++) {
            LotNobodyWants x = new LotNobodyWants();
            x.row(0, sort, 3);
            int bits = 8 << sort;
            for (long v : values) {
                long want = sort == 4 ? (v == 0 ? 0 : 1) : v << 64 - bits >> 64 - bits;
                Check.due("put " + v, x.put(0, 1, v), 1);
                Check.due(v + " in sort " + sort, x.element(0, 1), want);
                Check.due("the place ahead", x.element(0, 0), 0);
                Check.due("the place behind", x.element(0, 2), 0);
            }
        }
        LotNobodyWants x = new LotNobodyWants();
        x.row(0, 4, 1);
        x.put(0, 0, Long.MIN_VALUE);
        Check.due("the least is not 0", x.element(0, 0), 1);
        x.row(0, 2, 1);
        x.put(0, 0, Long.MIN_VALUE);
        Check.due("its lowest bits are", x.element(0, 0), 0);
    }

    /** "-13 a place that is not there"; "-11"; "-12" */
    private static void places() {
        LotNobodyWants x = ofAllKinds();
        int[] sizes = {0, 1, 59, 60};
        for (int n : sizes) {
            x.row(0, 0, n);
            for (int i : Refusals.beside(0, n - 1)) {
                Check.due("put at " + i + " of " + n, x.put(0, i, 1), -13);
                Check.due("element at " + i + " of " + n, x.element(0, i), NONE);
            }
            if (n > 0) {
                Check.due("put at the first of " + n, x.put(0, 0, 5), 1);
                Check.due("put at the last of " + n, x.put(0, n - 1, 6), 1);
                Check.due("the last of " + n, x.element(0, n - 1), 6);
            }
        }
        Check.due("nothing there", x.put(1, 0, 1), -11);
        Check.due("nothing there, and no place", x.put(1, -1, 1), -11);
        x.keep(1, 0);
        Check.due("a body", x.put(1, 0, 1), -12);
        Check.due("a body, and no place", x.put(1, 61, 1), -12);
    }

    /** "Long.MIN_VALUE: BAD, -11 to -13": and a long that is so itself. */
    private static void elementOfNothing() {
        LotNobodyWants x = ofAllKinds();
        Check.due("nothing", x.element(0, 0), NONE);
        x.keep(0, 0);
        Check.due("a body", x.element(0, 0), NONE);
        x.row(0, 3, 2);
        Check.due("0 at first", x.element(0, 1), 0);
        Check.due("place -1", x.element(0, -1), NONE);
        Check.due("place 2", x.element(0, 2), NONE);
        x.put(0, 1, Long.MIN_VALUE);
        Check.due("the least long", x.element(0, 1), Long.MIN_VALUE);
        x.put(0, 1, Long.MIN_VALUE + 1);
        Check.due("the next", x.element(0, 1), Long.MIN_VALUE + 1);
    }

    // ---- shift

    /** "come to another one (or the same) .., as they all were before: n" */
    private static void shiftedAsTheyWere() {
        for (int from = 0; from <= 5; from++) {
            for (int to = 0; to <= 5; to++) {
                int n = 6 - Math.max(from, to);
                LotNobodyWants x = new LotNobodyWants();
                Check.bytes(x, 0, 10, 11, 12, 13, 14, 15);
                long[] want = {10, 11, 12, 13, 14, 15};
                for (int k = 0; k < n; k++) {
                    want[to + k] = 10 + from + k;
                }
                Check.due("shift from " + from + " to " + to, x.shift(0, from, 0, to, n), n);
                elements("from " + from + " to " + to, x, 0, want);
            }
        }
        LotNobodyWants x = new LotNobodyWants();
        Check.bytes(x, 0, 1, 2, 3);
        Check.bytes(x, 1, 7, 8, 9, 10);
        Check.due("two to another", x.shift(0, 1, 1, 2, 2), 2);
        elements("those it comes to", x, 1, 7, 8, 2, 3);
        elements("those it comes from stay", x, 0, 1, 2, 3);
    }

    /** "n elements of a ROW from i on": from none to all sixty. */
    private static void shiftEdges() {
        LotNobodyWants x = new LotNobodyWants();
        x.row(0, 3, 60);
        x.row(1, 3, 60);
        for (int i = 0; i < 60; i++) {
            x.put(0, i, 1000 + i);
        }
        Check.due("all sixty", x.shift(0, 0, 1, 0, 60), 60);
        Check.due("the first came", x.element(1, 0), 1000);
        Check.due("the last came", x.element(1, 59), 1059);
        Check.due("sixty-one", x.shift(0, 0, 1, 0, 61), -13);
        Check.due("sixty from 1", x.shift(0, 1, 1, 0, 60), -13);
        Check.due("sixty to 1", x.shift(0, 0, 1, 1, 60), -13);
        Check.due("the last to the first", x.shift(0, 59, 1, 0, 1), 1);
        Check.due("is there", x.element(1, 0), 1059);
        Check.due("the first to the last", x.shift(0, 0, 1, 59, 1), 1);
        Check.due("is there, too", x.element(1, 59), 1000);
        Check.due("from 60", x.shift(0, 60, 1, 0, 1), -13);
        Check.due("to 60", x.shift(0, 0, 1, 60, 1), -13);
        Check.due("from -1", x.shift(0, -1, 1, 0, 1), -13);
        Check.due("to -1", x.shift(0, 0, 1, -1, 1), -13);
        Check.due("none", x.shift(0, 0, 1, 0, 0), 0);
        Check.due("none, from the end to the end", x.shift(0, 60, 1, 60, 0), 0);
        Check.due("none, from -1", x.shift(0, -1, 1, 0, 0), -13);
        Check.due("none, to -1", x.shift(0, 0, 1, -1, 0), -13);
        Check.due("less than none", x.shift(0, 5, 1, 5, -1), -13);
        Check.due("far less than none", x.shift(0, 5, 1, 5, LEAST), -13);
        Check.due("a sum that wraps", x.shift(0, 1, 1, 1, GREATEST), -13);
        Check.due("from the greatest place", x.shift(0, GREATEST, 1, 0, 1), -13);
        Check.due("to the greatest place", x.shift(0, 0, 1, GREATEST, 1), -13);
        x.row(2, 3, 0);
        Check.due("none of none", x.shift(2, 0, 2, 0, 0), 0);
        Check.due("one of none", x.shift(2, 0, 1, 0, 1), -13);
        Check.due("one to none", x.shift(1, 0, 2, 0, 1), -13);
    }

    /** "-12 (no ROWS, or of unlike sorts)" */
    private static void shiftSorts() {
        for (int a = 0; a < 5; a++) {
            for (int b = 0; b < 5; b++) {
                LotNobodyWants x = new LotNobodyWants();
                x.row(0, a, 2);
                x.row(1, b, 2);
                x.put(0, 1, 1);
                Check.due("sort " + a + " to " + b, x.shift(0, 1, 1, 0, 1), a == b ? 1 : -12);
                Check.due("what is there", x.element(1, 0), a == b ? 1 : 0);
                Check.due("no places either", x.shift(0, 9, 1, 9, 9), a == b ? -13 : -12);
            }
        }
    }

    /** "BAD, -11 (either), -12 (no ROWS ..)", of several the first. */
    private static void shiftRefused() {
        LotNobodyWants x = ofAllKinds();
        x.row(0, 0, 1);
        x.keep(1, 1);
        // 2 holds nothing.
        Check.due("row to body", x.shift(0, 0, 1, 0, 1), -12);
        Check.due("body to row", x.shift(1, 0, 0, 0, 1), -12);
        Check.due("body to itself", x.shift(1, 0, 1, 0, 0), -12);
        Check.due("row to nothing", x.shift(0, 0, 2, 0, 1), -11);
        Check.due("nothing to row", x.shift(2, 0, 0, 0, 1), -11);
        Check.due("nothing to itself", x.shift(2, 0, 2, 0, 0), -11);
        Check.due("body to nothing", x.shift(1, 0, 2, 0, 1), -11);
        Check.due("nothing to body", x.shift(2, 0, 1, 0, 1), -11);
        for (int shelf : Refusals.beside(0, 5)) {
            for (int other = 0; other < 3; other++) {
                Check.due("from " + shelf + " to " + other, x.shift(shelf, 0, other, 0, 1), -1);
                Check.due("from " + other + " to " + shelf, x.shift(other, 0, shelf, 0, 1), -1);
            }
        }
        Check.due("row to itself", x.shift(0, 0, 0, 0, 1), 1);
    }

    // ---- taken, count

    /** "taken for a BODY of KIND k (0 .. 7), or under it: its KIND" */
    private static void takenForAKind() {
        int[][] under = {{0, 1, 2, 3, 4, 5, 6, 7}, {1, 4}, {2, 3, 5}, {3, 5}, {4}, {5}, {6, 7}, {7}};
        LotNobodyWants x = ofAllKinds();
        for (int k = 0; k < 8; k++) {
            for (int kind = 0; kind < 8; kind++) {
                int want = -12;
                for (int u : under[k]) {
                    want = u == kind ? kind : want;
                }
                x.keep(0, kind);
                Check.due("KIND " + kind + " taken for " + k, x.taken(0, k), want);
            }
        }
    }

    /** "BAD, -11, -12" */
    private static void takenRefused() {
        LotNobodyWants x = ofAllKinds();
        x.row(1, 0, 0);
        x.keep(2, 0);
        for (int shelf = 0; shelf < 3; shelf++) {
            for (int k : Refusals.beside(0, 7)) {
                Check.due("shelf " + shelf + " for " + k, x.taken(shelf, k), -1);
            }
        }
        for (int shelf : Refusals.beside(0, 5)) {
            Check.due("shelf " + shelf, x.taken(shelf, 0), -1);
        }
        for (int k = 0; k < 8; k++) {
            Check.due("nothing for " + k, x.taken(0, k), -11);
            Check.due("a row for " + k, x.taken(1, k), -12);
            Check.due("a HAT for " + k, x.taken(2, k), k == 0 ? 0 : -12);
        }
    }

    /** "How many: 0 PEOPLE, 1 TICKETS, 2 bytes on THE TAPE, 3 changes that may be UNDONE, 4 BODIES, 5 bodies that ran .. BAD." */
    private static void counts() {
        LotNobodyWants x = Scenes.busy();
        int[] want = {4, 7, 1, 6, 8, 8};
        for (int what = 0; what < 6; what++) {
            Check.due("count(" + what + ")", x.count(what), want[what]);
        }
        for (int what : Refusals.beside(0, 5)) {
            Check.due("count(" + what + ")", x.count(what), -1);
        }
        x.redo();
        Check.due("a change done again", x.count(3), 7);
        x.undo();
        x.undo();
        Check.due("two undone", x.count(3), 5);
        LotNobodyWants full = Scenes.full();
        int[] all = {6, 12, 120, 0, 50, 0};
        for (int what = 0; what < 6; what++) {
            Check.due("count(" + what + ") of all", full.count(what), all[what]);
        }
        full.law();
        Check.due("the tape is empty then", full.count(2), 0);
    }
}
