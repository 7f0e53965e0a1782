import java.util.function.Supplier;
import java.util.function.ToLongFunction;

/** Puts each refused call to an object of its own, then asks that object all that can be asked, to see that nothing changed. */
final class Refusals {
    private final Supplier<LotNobodyWants> scene;
    private final String untouched;

    Refusals(Supplier<LotNobodyWants> scene) {
        this.scene = scene;
        untouched = allThatCanBeAsked(scene.get());
    }

    /** A call whose answer is due and that changes nothing. */
    void due(String call, long want, ToLongFunction<LotNobodyWants> asked) {
        LotNobodyWants x = scene.get();
        Check.due(call, asked.applyAsLong(x), want);
        Check.due(call + " changed nothing", allThatCanBeAsked(x).equals(untouched) ? 1 : 0, 1);
    }

    /** A call that is answered and changes nothing all the same. */
    void leavesAll(String call, ToLongFunction<LotNobodyWants> asked) {
        LotNobodyWants x = scene.get();
        asked.applyAsLong(x);
        Check.due(call + " changes nothing", allThatCanBeAsked(x).equals(untouched) ? 1 : 0, 1);
    }

    /** A call that does change something: else what is asked here would not see enough. */
    void changes(String call, ToLongFunction<LotNobodyWants> asked) {
        LotNobodyWants x = scene.get();
        asked.applyAsLong(x);
        Check.due(call + " is seen", allThatCanBeAsked(x).equals(untouched) ? 1 : 0, 0);
    }

    /** The next numbers on each side that are not taken, and the farthest ones. */
    static int[] beside(int least, int greatest) {
        return new int[] {Integer.MIN_VALUE, least - 1, greatest + 1, Integer.MAX_VALUE};
    }

    /** All answers that tell of the state: those that change it come last. */
    static String allThatCanBeAsked(LotNobodyWants x) {
        StringBuilder text = new StringBuilder();
        for (int what = 0; what < 6; what++) {
            text.append(x.count(what)).append(' ');
        }
        for (int i = 0; i <= x.count(5); i++) {
            text.append(x.trace(i)).append(' ');
        }
        askNumbers(x, text);
        for (int one = 0; one < x.count(0); one++) {
            text.append(x.of(one, 9)).append(' ').append(x.of(one, 10)).append(' ');
        }
        askOdds(x, text);
        askShelves(x, text);
        askBack(x, text);
        askChanges(x, text);
        text.append("| law ").append(x.law()).append(' ');
        askOdds(x, text);
        text.append("| next ").append(x.person(1)).append(' ').append(x.ticket(0, 0)).append(' ').append(x.body(1));
        return text.toString();
    }

    /** All numbers of mend(), and what LED tells. */
    private static void askNumbers(LotNobodyWants x, StringBuilder text) {
        text.append("| numbers ");
        for (int what = 0; what < 9; what++) {
            int most = what < 4 ? x.count(0) : what < 7 ? x.count(1) : 1;
            for (int number = 0; number < most; number++) {
                text.append(x.of(number, what)).append(' ');
            }
        }
        for (int what = 0; what < 4; what++) {
            text.append(x.led(what)).append(' ');
        }
    }

    /** Odds of a few SLIPPINGS of each TICKET tell of THE LAW. */
    private static void askOdds(LotNobodyWants x, StringBuilder text) {
        text.append("| odds ");
        for (int ticket = 0; ticket < x.count(1); ticket++) {
            text.append(x.odds(8 * ticket)).append(' ').append(x.odds(8 * ticket + 1)).append(' ');
        }
    }

    private static void askShelves(LotNobodyWants x, StringBuilder text) {
        for (int shelf = 0; shelf < 6; shelf++) {
            text.append("| shelf ").append(x.taken(shelf, 0)).append(' ');
            for (int i = 0; i < 8; i++) {
                text.append(x.element(shelf, i)).append(' ');
            }
        }
    }

    private static void askBack(LotNobodyWants x, StringBuilder text) {
        int answer = x.back();
        text.append("| back ").append(answer).append(' ');
        if (answer >= 0) {
            askNumbers(x, text);
        }
    }

    /** CHANGES to either end, with a look at what they mended. */
    private static void askChanges(LotNobodyWants x, StringBuilder text) {
        int answer = x.redo();
        text.append("| redo ").append(answer).append(' ');
        if (answer >= 0) {
            for (int k = 0; k < 41 && answer > 0; k++) {
                answer = x.redo();
                text.append(answer).append(' ');
            }
            askNumbers(x, text);
        }
        answer = x.undo();
        text.append("| undo ").append(answer).append(' ');
        if (answer >= 0) {
            for (int k = 0; k < 41 && answer > 0; k++) {
                answer = x.undo();
                text.append(answer).append(' ');
            }
            askNumbers(x, text);
        }
    }
}
