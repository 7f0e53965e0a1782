/** Counts calls whose answers are not as due; a test ends with finish(). */
final class Check {
    private static int asked;
    private static int wrong;

    private Check() {
    }

    static void due(String call, long got, long want) {
        asked++;
        if (got != want) {
            wrong++;
            System.out.println(call + " answered " + got + ", due is " + want);
        }
    }

    /** A fraction by its two parts. */
    static void due(String call, long above, long below, long wantAbove, long wantBelow) {
        due(call + " above", above, wantAbove);
        due(call + " below", below, wantBelow);
    }

    static void finish() {
        System.out.println(asked + " answers asked, " + wrong + " not as due");
        if (wrong != 0) {
            System.exit(1);
        }
    }

    static int wrongOnes() {
        return wrong;
    }

    /** Feeds a text; what law() answers. */
    static int tell(LotNobodyWants x, String text) {
        for (int k = 0; k < text.length(); k++) {
            x.feed(text.charAt(k));
        }
        return x.law();
    }

    /** Lays a ROW of bytes on a SHELF. */
    static void bytes(LotNobodyWants x, int shelf, int... values) {
        x.row(shelf, 0, values.length);
        for (int k = 0; k < values.length; k++) {
            x.put(shelf, k, values[k]);
        }
    }
}
