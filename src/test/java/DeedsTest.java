/** Promises 26 to 33: in deed, an image, changes undone and done again. */
public final class DeedsTest {
    public static void main(String[] args) {
        slip();
        fold();
        hour();
        led();
        image();
        undo();
        redo();
        mostChanges();
        mostChangesOfAllSorts();
        deedsAreNoChanges();
        Check.finish();
    }

    private static LotNobodyWants scene() {
        LotNobodyWants x = new LotNobodyWants();
        x.person(6);
        x.person(12);
        x.person(6);
        x.mend(2, 1, 1);
        x.ticket(0, 0);
        x.ticket(1, 1);
        return x;
    }

    private static void slip() {
        LotNobodyWants x = scene();
        Check.due("one that fails", x.slip(1, 0), 0);
        Check.due("well, against all odds", x.slip(1, 1), 1);
        Check.due("HOLDER", x.of(0, 4), 1);
        Check.due("to its holder", x.slip(1, 1), -5);
        Check.due("to a child", x.slip(2, 0), -5);
        Check.due("a forged one", x.slip(8, 1), 0);
        Check.due("no ticket", x.slip(16, 1), -1);
        Check.due("nobody", x.slip(3, 1), -1);
        Check.due("below 0", x.slip(-1, 1), -1);
        Check.due("well 2", x.slip(0, 2), -1);
        Check.due("well -1, and it can't be", x.slip(1, -1), -1);
        x.mend(0, 6, 4);
        Check.due("folded four times", x.slip(0, 1), -5);
        for (int k = 0; k < 4; k++) {
            x.ticket(0, 0);
        }
        Check.due("the sixth ticket", x.slip(41, 1), 1);
        Check.due("its HOLDER", x.of(5, 4), 1);
        Check.due("not the third's", x.of(2, 4), 0);
        Check.due("SLIPPINGS", x.led(0), 4);
        Check.due("well", x.led(1), 3);
    }

    private static void fold() {
        LotNobodyWants x = scene();
        for (int k = 1; k <= 4; k++) {
            Check.due("fold " + k, x.fold(1), k);
        }
        Check.due("a fifth time", x.fold(1), -5);
        Check.due("FOLDS", x.of(1, 6), 4);
        Check.due("the other one", x.of(0, 6), 0);
        Check.due("no ticket", x.fold(2), -1);
        Check.due("ticket -1", x.fold(-1), -1);
        Check.due("folds", x.led(2), 4);
    }

    private static void hour() {
        LotNobodyWants x = new LotNobodyWants();
        for (int k = 1; k <= 25; k++) {
            Check.due("hour " + k, x.hour(), k % 12);
        }
        Check.due("HOUR", x.of(0, 7), 1);
        Check.due("hours", x.led(3), 25);
    }

    private static void led() {
        LotNobodyWants x = scene();
        x.slip(1, 0);
        x.fold(0);
        x.fold(0);
        x.hour();
        x.hour();
        x.hour();
        int[] due = {1, 0, 2, 3};
        for (int what = 0; what < 4; what++) {
            Check.due("led " + what, x.led(what), due[what]);
        }
        Check.due("led -1", x.led(-1), -1);
        Check.due("led 4", x.led(4), -1);
    }

    private static void image() {
        LotNobodyWants x = scene();
        Check.due("none yet", x.back(), -5);
        x.slip(1, 1);
        x.fold(0);
        x.hour();
        Check.due("image", x.image(), 1);
        x.slip(0, 1);
        x.slip(1, 0);
        x.fold(0);
        x.fold(1);
        x.hour();
        x.ticket(0, 0);
        x.fold(2);
        x.mend(0, 8, 5);
        x.mend(0, 5, 1);
        x.mend(1, 0, 3);
        for (int k = 0; k < 2; k++) {
            Check.due("back", x.back(), 1);
            Check.due("HOLDER", x.of(0, 4), 1);
            Check.due("FOLDS", x.of(0, 6), 1);
            Check.due("FOLDS of 1", x.of(1, 6), 0);
            Check.due("HOUR", x.of(0, 7), 1);
            Check.due("SEEN stays", x.of(0, 8), 5);
            Check.due("FORGED stays", x.of(0, 5), 1);
            Check.due("WARY stays", x.of(1, 0), 3);
            Check.due("led 0", x.led(0), 1);
            Check.due("led 1", x.led(1), 1);
            Check.due("led 2", x.led(2), 1);
            Check.due("led 3", x.led(3), 1);
            Check.due("a ticket that came since", x.of(2, 6), 1 + k);
            x.slip(0, 1);
            x.mend(2, 6, 2);
            x.hour();
        }
        Check.due("a later image", x.image(), 2);
        x.slip(1, 0);
        Check.due("goes ahead of the first", x.back(), 2);
        Check.due("with its HOUR", x.of(0, 7), 2);
    }

    private static void undo() {
        LotNobodyWants x = scene();
        Check.due("undo of making a child", x.undo(), 0);
        Check.due("CHILD", x.of(2, 1), 0);
        Check.due("no more", x.undo(), -5);
        int[] numbers = {0, 1, 2, 0, 1, 0, 1, 0, 0};
        int[] values = {3, 1, 44, 5, 0, 1, 4, 8, 7};
        int[] before = new int[9];
        for (int what = 0; what < 9; what++) {
            before[what] = x.mend(numbers[what], what, values[what]);
        }
        Check.due("all changes", x.count(3), 9);
        for (int what = 8; what >= 0; what--) {
            Check.due("undo " + what, x.undo(), what);
            Check.due("is as before " + what, x.of(numbers[what], what), before[what]);
        }
        for (int what = 0; what < 9; what++) {
            Check.due("redo " + what, x.redo(), 8 - what);
            Check.due("is mended again " + what, x.of(numbers[what], what), values[what]);
        }
    }

    private static void redo() {
        LotNobodyWants x = scene();
        Check.due("none", x.redo(), -5);
        x.mend(0, 0, 1);
        x.mend(0, 0, 2);
        x.undo();
        x.undo();
        Check.due("again", x.redo(), 1);
        Check.due("WARY", x.of(0, 0), 1);
        Check.due("the same number is no change", x.mend(0, 0, 1), 1);
        Check.due("a bad one neither", x.mend(0, 0, 13), -1);
        Check.due("so again", x.redo(), 0);
        Check.due("WARY then", x.of(0, 0), 2);
        x.undo();
        x.mend(0, 0, 9);
        Check.due("another one came behind", x.redo(), -5);
        Check.due("changes", x.count(3), 3);
        Check.due("undo", x.undo(), 2);
        Check.due("WARY at last", x.of(0, 0), 1);
    }

    private static void mostChanges() {
        LotNobodyWants x = new LotNobodyWants();
        x.person(6);
        for (int k = 1; k <= 45; k++) {
            x.mend(0, 2, k + 10);
            Check.due("changes " + k, x.count(3), Math.min(40, k));
        }
        for (int k = 39; k >= 0; k--) {
            Check.due("undo " + k, x.undo(), k);
        }
        Check.due("the oldest are gone", x.undo(), -5);
        Check.due("PRICE", x.of(0, 2), 15);
        for (int k = 39; k >= 0; k--) {
            Check.due("redo " + k, x.redo(), k);
        }
        Check.due("PRICE again", x.of(0, 2), 55);
        Check.due("no more", x.redo(), -5);
    }

    /** Sixty changes of numbers of all sorts, stepped back and forth through the forty kept. */
    private static void mostChangesOfAllSorts() {
        LotNobodyWants x = scene();
        String[] was = new String[61];
        for (int k = 1; k <= 60; k++) {
            int what = k * 5 % 9;
            int number = what < 4 ? k % 3 : what < 7 ? k % 2 : 0;
            if (x.mend(number, what, 1) == 1) {
                x.mend(number, what, 0);
            }
            was[k] = k % 10 == 0 && k >= 20 ? numbers(x) : "";
        }
        for (int k = 59; k >= 20; k--) {
            Check.due("undo to " + k, x.undo(), k - 20);
            if (k % 10 == 0) {
                Check.due("all is as after " + k, numbers(x).equals(was[k]) ? 1 : 0, 1);
            }
        }
        Check.due("no more is kept", x.undo(), -5);
        for (int k = 21; k <= 60; k++) {
            Check.due("redo to " + k, x.redo(), 60 - k);
            if (k % 20 == 0) {
                Check.due("all is as after " + k + " again", numbers(x).equals(was[k]) ? 1 : 0, 1);
            }
        }
    }

    private static String numbers(LotNobodyWants x) {
        StringBuilder text = new StringBuilder();
        for (int what = 0; what < 9; what++) {
            for (int number = 0; number < 3; number++) {
                text.append(x.of(number, what)).append(' ');
            }
        }
        return text.toString();
    }

    private static void deedsAreNoChanges() {
        LotNobodyWants x = scene();
        x.mend(0, 6, 2);
        x.undo();
        x.slip(1, 1);
        x.fold(0);
        x.hour();
        x.image();
        x.back();
        Check.due("changes", x.count(3), 1);
        Check.due("redo all the same", x.redo(), 0);
        Check.due("FOLDS", x.of(0, 6), 2);
        Check.due("undo to what was", x.undo(), 1);
        Check.due("FOLDS then", x.of(0, 6), 0);
        Check.due("HOLDER by deed", x.of(0, 4), 1);
    }
}
