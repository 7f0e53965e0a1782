/** Promises 34 to 43: bodies and their acts, shelves, counts. */
public final class ShelvesTest {
    private static final long NONE = Long.MIN_VALUE;

    public static void main(String[] args) {
        body();
        act();
        actWraps();
        trace();
        keep();
        row();
        put();
        element();
        shift();
        taken();
        count();
        Check.finish();
    }

    private static void body() {
        LotNobodyWants x = new LotNobodyWants();
        Check.due("body -1", x.body(-1), -1);
        Check.due("body 8", x.body(8), -1);
        for (int k = 0; k < 50; k++) {
            Check.due("body " + k, x.body(k % 8), k);
        }
        Check.due("a fifty-first", x.body(0), -3);
        Check.due("a bad one", x.body(8), -1);
        Check.due("the last is kept", x.act(49, 0, 1), 1 + 49 + 3);
    }

    private static LotNobodyWants ofAllKinds() {
        LotNobodyWants x = new LotNobodyWants();
        for (int kind = 0; kind < 8; kind++) {
            x.body(kind);
        }
        return x;
    }

    /** All acts with x 7; the body's number is its KIND. */
    private static void act() {
        int[][] due = {
            {7, 14, 7, 13},
            {11, 22, 6, 22},
            {9, -18, 5, -21},
            {10, -22, 12, -28},
            {14, 28, 3, 28 - 5 ^ 5},
            {12, -26, 6 - 7, -26 - 5 + 1},
            {26, 52, 1, 45},
            {27, 54 + 5, 0, 59 - 6}
        };
        LotNobodyWants x = ofAllKinds();
        for (int kind = 0; kind < 8; kind++) {
            for (int act = 0; act < 4; act++) {
                Check.due("act " + act + " of kind " + kind, x.act(kind, act, 7), due[kind][act]);
            }
        }
        Check.due("no such body", x.act(8, 0, 7), 0);
        Check.due("body -1", x.act(-1, 0, 7), 0);
        Check.due("no such act", x.act(0, 4, 7), 0);
        Check.due("act -1", x.act(0, -1, 7), 0);
    }

    private static void actWraps() {
        LotNobodyWants x = ofAllKinds();
        Check.due("slips wraps", x.act(1, 0, Integer.MAX_VALUE), Integer.MIN_VALUE + 3);
        Check.due("folds wraps", x.act(0, 1, 1 << 30), Integer.MIN_VALUE);
        Check.due("less the least", x.act(2, 1, (1 << 30) - 2), Integer.MIN_VALUE);
    }

    private static void trace() {
        LotNobodyWants x = ofAllKinds();
        int[][] due = {
            {2, 10, 1, 11},
            {2, 10, 20, 1, 11},
            {2, 30, 10, 1, 11},
            {2, 41, 30, 10, 1, 40, 11},
            {50, 2, 10, 20, 1, 11},
            {61, 2, 41, 30, 10, 1, 60, 40, 11, 1},
            {2, 10, 70, 1, 11},
            {2, 80, 10, 81, 70, 1, 11, 11}
        };
        for (int kind = 0; kind < 8; kind++) {
            x.act(kind, 3, 5);
            Check.due("bodies that ran for kind " + kind, x.count(5), due[kind].length);
            for (int i = 0; i < due[kind].length; i++) {
                Check.due("trace " + i + " of kind " + kind, x.trace(i), due[kind][i]);
            }
            Check.due("behind the trace", x.trace(due[kind].length), -1);
        }
        Check.due("trace -1", x.trace(-1), -1);
        x.act(0, 0, 1);
        Check.due("the latest act alone", x.count(5), 1);
        x.act(9, 0, 1);
        Check.due("no trace then", x.count(5), 0);
        Check.due("nor a first body", x.trace(0), -1);
        Check.due("trace of what never ran", new LotNobodyWants().trace(0), -1);
    }

    private static void keep() {
        LotNobodyWants x = ofAllKinds();
        Check.due("keep", x.keep(5, 7), 1);
        Check.due("is there", x.taken(5, 0), 7);
        Check.due("no such body", x.keep(5, 8), -1);
        Check.due("body -2", x.keep(5, -2), -1);
        Check.due("shelf 6", x.keep(6, -1), -1);
        Check.due("shelf -1", x.keep(-1, 0), -1);
        Check.due("still there", x.taken(5, 0), 7);
        Check.due("nothing", x.keep(5, -1), 1);
        Check.due("gone", x.taken(5, 0), -11);
        x.row(5, 0, 3);
        Check.due("in a row's place", x.keep(5, 0), 1);
        Check.due("no row", x.put(5, 0, 1), -12);
    }

    private static void row() {
        LotNobodyWants x = ofAllKinds();
        Check.due("sixty", x.row(0, 3, 60), 1);
        Check.due("last", x.put(0, 59, 1), 1);
        Check.due("first", x.put(0, 0, 1), 1);
        Check.due("behind it", x.put(0, 60, 1), -13);
        Check.due("61", x.row(0, 3, 61), -1);
        Check.due("sort 5", x.row(0, 5, 1), -1);
        Check.due("sort -1", x.row(0, -1, -1), -1);
        Check.due("shelf 6", x.row(6, 0, -1), -1);
        Check.due("below 0", x.row(0, 0, -1), -14);
        Check.due("the row stays", x.element(0, 59), 1);
        Check.due("anew", x.row(0, 3, 60), 1);
        Check.due("of zeros", x.element(0, 59), 0);
        Check.due("from the first on", x.element(0, 0), 0);
        Check.due("of none", x.row(0, 4, 0), 1);
        Check.due("holds none", x.element(0, 0), NONE);
    }

    private static void put() {
        LotNobodyWants x = ofAllKinds();
        long[] values = {300, -129, 70000, 1L << 40, -1, Long.MIN_VALUE, 128, 3000000000L};
        for (int sort = 0; sort < 5; sort++) {
            x.row(0, sort, 2);
            for (long v : values) {
                long[] due = {(byte) v, (short) v, (int) v, v, 1};
                Check.due("put " + v, x.put(0, 1, v), 1);
                Check.due("sort " + sort + " of " + v, x.element(0, 1), due[sort]);
            }
            x.put(0, 1, 0);
            Check.due("sort " + sort + " of 0", x.element(0, 1), 0);
        }
        Check.due("place 2", x.put(0, 2, 1), -13);
        Check.due("place -1", x.put(0, -1, 1), -13);
        Check.due("nothing", x.put(1, 0, 1), -11);
        x.keep(1, 0);
        Check.due("a body", x.put(1, 99, 1), -12);
        Check.due("shelf 6", x.put(6, 0, 1), -1);
        Check.due("shelf -1", x.put(-1, 0, 1), -1);
    }

    private static void element() {
        LotNobodyWants x = ofAllKinds();
        x.row(0, 2, 2);
        Check.due("0 at first", x.element(0, 1), 0);
        Check.due("place 2", x.element(0, 2), NONE);
        Check.due("place -1", x.element(0, -1), NONE);
        Check.due("nothing", x.element(1, 0), NONE);
        x.keep(1, 0);
        Check.due("a body", x.element(1, 0), NONE);
        Check.due("shelf 6", x.element(6, 0), NONE);
        Check.due("shelf -1", x.element(-1, 0), NONE);
    }

    private static void shift() {
        LotNobodyWants x = ofAllKinds();
        Check.bytes(x, 0, 1, 2, 3, 4, 5);
        x.row(1, 0, 3);
        Check.due("to another", x.shift(0, 1, 1, 0, 3), 3);
        row(x, 1, 2, 3, 4);
        Check.due("up in the same", x.shift(0, 0, 0, 1, 4), 4);
        row(x, 0, 1, 1, 2, 3, 4);
        Check.due("down in the same", x.shift(0, 2, 0, 0, 3), 3);
        row(x, 0, 2, 3, 4, 3, 4);
        Check.due("none, at the end", x.shift(0, 5, 1, 3, 0), 0);
        Check.due("none, behind the end", x.shift(0, 6, 1, 3, 0), -13);
        Check.due("too many from", x.shift(1, 0, 0, 0, 4), -13);
        Check.due("too many to", x.shift(0, 0, 1, 0, 4), -13);
        Check.due("from -1", x.shift(0, -1, 1, 0, 1), -13);
        Check.due("to -1", x.shift(0, 0, 1, -1, 1), -13);
        Check.due("n -1", x.shift(0, 1, 1, 1, -1), -13);
        Check.due("n most", x.shift(0, 1, 1, 1, Integer.MAX_VALUE), -13);
        row(x, 1, 2, 3, 4);
        x.row(2, 1, 3);
        Check.due("unlike sorts", x.shift(0, -1, 2, 0, 1), -12);
        x.keep(3, 0);
        Check.due("a body", x.shift(3, 0, 3, 0, 0), -12);
        Check.due("to a body", x.shift(0, 0, 3, 0, 0), -12);
        Check.due("from nothing", x.shift(4, 0, 3, 0, 1), -11);
        Check.due("to nothing", x.shift(3, 0, 4, 0, 1), -11);
        Check.due("shelf 6", x.shift(6, 0, 4, 0, 1), -1);
        Check.due("to shelf -1", x.shift(4, 0, -1, 0, 1), -1);
    }

    private static void row(LotNobodyWants x, int shelf, int... due) {
        for (int i = 0; i < due.length; i++) {
            Check.due("shelf " + shelf + " place " + i, x.element(shelf, i), due[i]);
        }
    }

    private static void taken() {
        LotNobodyWants x = ofAllKinds();
        int[][] above = {{0}, {0, 1}, {0, 2}, {0, 2, 3}, {0, 1, 4}, {0, 2, 3, 5}, {0, 6}, {0, 6, 7}};
        for (int kind = 0; kind < 8; kind++) {
            x.keep(0, kind);
            for (int k = 0; k < 8; k++) {
                long due = -12;
                for (int a : above[kind]) {
                    due = a == k ? kind : due;
                }
                Check.due("kind " + kind + " taken for " + k, x.taken(0, k), due);
            }
        }
        Check.due("nothing", x.taken(1, 0), -11);
        x.row(1, 0, 1);
        Check.due("a row", x.taken(1, 0), -12);
        Check.due("kind 8", x.taken(0, 8), -1);
        Check.due("kind -1", x.taken(2, -1), -1);
        Check.due("shelf 6", x.taken(6, 0), -1);
        Check.due("shelf -1", x.taken(-1, 0), -1);
    }

    private static void count() {
        LotNobodyWants x = new LotNobodyWants();
        x.person(1);
        x.person(1);
        x.ticket(0, 0);
        x.feed(1);
        x.feed(2);
        x.feed(3);
        x.mend(0, 0, 2);
        x.mend(0, 0, 3);
        x.mend(0, 0, 4);
        x.mend(0, 0, 5);
        for (int k = 0; k < 5; k++) {
            x.body(0);
        }
        x.act(0, 3, 1);
        int[] due = {2, 1, 3, 4, 5, 4};
        for (int what = 0; what < 6; what++) {
            Check.due("count " + what, x.count(what), due[what]);
        }
        x.undo();
        Check.due("one undone", x.count(3), 3);
        Check.due("count -1", x.count(-1), -1);
        Check.due("count 6", x.count(6), -1);
    }
}
