import java.util.Random;

/** Long runs of drawn calls: the class must answer each as Model does. */
public final class ModelTest {
    private static final int RUNS = 12000, CALLS = 512;

    private final Random random;
    private final LotNobodyWants x = new LotNobodyWants();
    private final Model m = new Model();
    private final int run;
    private int calls;

    /** An object is used for so many calls and no more. */
    private static final class Used extends RuntimeException {
        private static final long serialVersionUID = 1;
    }

    private ModelTest(int run) {
        this.run = run;
        random = new Random(run);
    }

    public static void main(String[] args) {
        for (int run = 0; run < RUNS && Check.wrongOnes() == 0; run++) {
            new ModelTest(run).useUp();
        }
        Check.finish();
    }

    private void useUp() {
        try {
            for (int k = 0; Check.wrongOnes() == 0; k++) {
                call(k < 40 && run % 4 != 0);
            }
        } catch (Used e) {
            return;
        }
    }

    private int in(int from, int to) {
        return from + random.nextInt(to - from + 1);
    }

    /** Mostly from the range, now and then beside it or far off. */
    private int near(int from, int to) {
        int odd = random.nextInt(60);
        if (odd == 0) return from - 1;
        if (odd == 1) return to + 1;
        if (odd == 2) return random.nextInt();
        if (odd == 3) return random.nextBoolean() ? Integer.MIN_VALUE : Integer.MAX_VALUE;
        return in(from, to);
    }

    private int one() {
        return near(0, Math.max(0, m.people.size() - 1));
    }

    private int ticket() {
        return near(0, Math.max(0, m.tickets.size() - 1));
    }

    private int tp() {
        return random.nextInt(40) == 0 ? near(-3, 100) : 8 * ticket() + one();
    }

    private void due(String call, long got, long want) {
        Check.due("run " + run + ": " + call, got, want);
        calls++;
        if (calls == CALLS) {
            throw new Used();
        }
    }

    private void call(boolean atFirst) {
        int sort = random.nextInt(atFirst ? 12 : 48);
        if (!atFirst && run % 5 == 1 && random.nextInt(3) != 0) {
            sort = random.nextInt(4) != 0 ? 4 : in(34, 35);
        }
        if (!atFirst && run % 5 == 2 && random.nextInt(6) == 0) {
            sort = random.nextBoolean() ? 10 : 24;
        }
        if (sort < 12) makePeopleAndTickets(sort);
        else if (sort < 26) think(sort);
        else if (sort < 36) doDeeds(sort);
        else actAndShelve(sort);
    }

    private void makePeopleAndTickets(int sort) {
        int a = one(), b = near(0, 1), c;
        switch (sort) {
            case 0: case 1:
                c = near(0, 12);
                due("person " + c, x.person(c), m.person(c));
                return;
            case 2: case 3:
                due("ticket " + a + " " + b, x.ticket(a, b), m.ticket(a, b));
                return;
            case 4: case 5: case 6:
                mend();
                return;
            case 7:
                a = near(0, 11);
                b = near(0, 10);
                due("of " + a + " " + b, x.of(a, b), m.of(a, b));
                return;
            case 8: case 9:
                tellLaw();
                return;
            case 10:
                layEvening();
                return;
            default:
                takeTickets();
        }
    }

    private void mend() {
        int what = near(0, 8);
        int number = what < 4 ? one() : what < 7 ? ticket() : near(0, 0);
        int[] most = {12, 1, 99, 9, m.people.size() - 1, 1, 4, 11, 9};
        int v = near(0, what < 0 || what > 8 ? 3 : Math.max(0, random.nextInt(3) == 0 ? Math.min(3, most[what]) : most[what]));
        due("mend " + number + " " + what + " " + v, x.mend(number, what, v), m.mend(number, what, v));
    }

    private void tellLaw() {
        StringBuilder text = new StringBuilder();
        line(text);
        for (int k = random.nextInt(3); k > 0; k--) {
            text.append(';');
            line(text);
        }
        if (random.nextInt(3) == 0) {
            spoil(text);
        }
        for (int k = 0; k < text.length(); k++) {
            int letter = text.charAt(k);
            due("feed " + letter, x.feed(letter), m.feed(letter));
        }
        if (random.nextInt(8) == 0) {
            int letter = near(0, 255);
            due("feed " + letter, x.feed(letter), m.feed(letter));
        }
        due("count 2", x.count(2), m.count(2));
        due("law " + m.tape, x.law(), m.law());
    }

    private void line(StringBuilder text) {
        if (random.nextInt(3) == 0) {
            joined(text, 0, 0);
            text.append('?');
        }
        joined(text, 0, 0);
    }

    private void joined(StringBuilder text, int level, int open) {
        String[] signs = {"|", "&", "<=>", "+-", "*/%"};
        if (level == 5) {
            operand(text, open);
            return;
        }
        joined(text, level + 1, open);
        for (int k = 0; k < 2 && random.nextInt(level < 3 ? 8 : 3) == 0; k++) {
            text.append(signs[level].charAt(random.nextInt(signs[level].length())));
            joined(text, level + 1, open);
        }
    }

    private void operand(StringBuilder text, int open) {
        int sort = random.nextInt(open > 7 ? 6 : 9);
        if (sort < 3) text.append(random.nextInt(4) == 0 ? random.nextInt(10000) : random.nextInt(14));
        else if (sort < 6) text.append("wbnfhs".charAt(random.nextInt(6)));
        else if (sort < 8) {
            text.append(sort == 6 ? '!' : '-');
            operand(text, open + 1);
        } else {
            text.append('(');
            joined(text, 0, open + 1);
            text.append(')');
        }
    }

    private void spoil(StringBuilder text) {
        String signs = "|&<=>+-*/%!()?;wbnfhs0123456789 x";
        char sign = signs.charAt(random.nextInt(signs.length()));
        int at = random.nextInt(text.length());
        int sort = random.nextInt(4);
        if (sort == 0) text.setCharAt(at, sign);
        else if (sort == 1) text.insert(at, sign);
        else if (sort == 2) text.deleteCharAt(at);
        else text.setLength(at);
    }

    private void layEvening() {
        int shelf = in(0, 2), n = in(0, 9), often = ticket(), seldom = in(1, 3);
        if (random.nextInt(20) == 0) n = in(10, 15);
        due("row", x.row(shelf, 0, n), m.row(shelf, 0, n));
        for (int k = 0; k < n; k++) {
            int v = random.nextInt(25) == 0 ? near(-3, 100) : tp();
            if (random.nextInt(3) >= seldom) v = 8 * often + one();
            due("put", x.put(shelf, k, v), m.put(shelf, k, v));
        }
        due("row", x.row(3, 0, 12), m.row(3, 0, 12));
        for (int k = 0; k < 12; k++) {
            int v = random.nextInt(3) != 0 && (seldom == 3 || k != often) ? -1 : one();
            due("put", x.put(3, k, v), m.put(3, k, v));
        }
    }

    private void takeTickets() {
        if (random.nextInt(3) == 0) {
            int n = in(0, 8);
            due("row", x.row(4, 0, n), m.row(4, 0, n));
            for (int k = 0; k < n; k++) {
                int v = k % 3 == 0 ? one() : k % 3 == 1 ? near(0, 1) : near(0, 4);
                due("put", x.put(4, k, v), m.put(4, k, v));
            }
        }
        int shelf = random.nextInt(3) == 0 ? near(0, 5) : 4, i = near(0, 4), n = near(1, 3);
        due("tickets " + shelf + " " + i + " " + n, x.tickets(shelf, i, n), m.tickets(shelf, i, n));
    }

    private void think(int sort) {
        int shelf = random.nextInt(10) == 0 ? near(0, 5) : in(0, 2);
        int n = near(0, 12), a = one(), b = ticket(), t = near(0, 3), set = near(0, 4095), part = near(0, 1);
        if (random.nextInt(3) != 0) set &= 15;
        switch (sort) {
            case 12:
                due("later", x.later(shelf, n, b), m.later(shelf, n, b));
                return;
            case 13:
                a = random.nextBoolean() ? in(-3, -1) : a;
                due("eve", x.eve(shelf, n, a), m.eve(shelf, n, a));
                return;
            case 14: case 15:
                due("likely", x.likely(shelf, set, part), m.likely(shelf, set, part));
                return;
            case 16:
                due("all", x.all(shelf, part), m.all(shelf, part));
                return;
            case 17:
                due("king", x.king(a, part), m.king(a, part));
                due("safe", x.safe(), m.safe());
                due("likeliest", x.likeliest(), m.likeliest());
                return;
            case 18:
                due("watch", x.watch(a), m.watch(a));
                return;
            case 19: case 20:
                rid(a, t, part);
                return;
            case 21:
                due("hire", x.hire(a, t, part), m.hire(a, t, part));
                due("hire", x.hire(a, n, part), m.hire(a, n, part));
                return;
            case 22:
                due("friend", x.friend(a, n), m.friend(a, n));
                due("half", x.half(), m.half());
                return;
            case 23:
                n = near(0, 9999);
                due("share", x.share(a, n), m.share(a, n));
                return;
            case 24:
                int told = random.nextInt(10) == 0 ? near(0, 5) : 3, what = near(0, 4);
                due("behind " + what, x.behind(shelf, told, what), m.behind(shelf, told, what));
                return;
            default:
                a = random.nextBoolean() ? a : near(-1, -1);
                n = random.nextInt(6) == 0 ? near(0, 3200) : 100 * in(1, 30) + in(1, 30);
                int seed = random.nextInt();
                due("drawn " + seed + " " + n + " " + a, x.drawn(seed, n, a), m.drawn(seed, n, a));
        }
    }

    private void rid(int a, int t, int part) {
        // The model thinks each TICKET through: three hours of many would take it too long.
        if (t == 3 && m.of(a, 10) > 3 || t == 2 && m.of(a, 10) > 7) {
            t = 1;
        }
        due("rid " + a + " " + t + " " + part, x.rid(a, t, part), m.rid(a, t, part));
        due("first " + a + " " + t, x.first(a, t), m.first(a, t));
    }

    private void doDeeds(int sort) {
        int tp = tp(), well = near(0, 1), b = ticket();
        switch (sort) {
            case 26: case 27:
                due("slip " + tp + " " + well, x.slip(tp, well), m.slip(tp, well));
                return;
            case 28:
                due("odds " + tp, x.odds(tp), m.odds(tp));
                return;
            case 29:
                if (random.nextInt(4) == 0) due("fold " + b, x.fold(b), m.fold(b));
                return;
            case 30:
                due("hour", x.hour(), m.hour());
                return;
            case 31:
                for (int k = -1; k < 5; k++) due("led " + k, x.led(k), m.led(k));
                return;
            case 32:
                due("image", x.image(), m.image());
                return;
            case 33:
                due("back", x.back(), m.back());
                return;
            case 34:
                due("undo", x.undo(), m.undo());
                return;
            default:
                due("redo", x.redo(), m.redo());
        }
    }

    private void actAndShelve(int sort) {
        int shelf = near(0, 5), other = near(0, 5), n = near(0, 60), i = near(0, 8), j = near(0, 8);
        int body = near(0, Math.max(0, m.bodies.size() - 1)), kind = near(0, 7), v = random.nextInt();
        switch (sort) {
            case 36:
                due("body", x.body(kind), m.body(kind));
                return;
            case 37: case 38:
                int act = near(0, 3);
                v = random.nextBoolean() ? v : in(-9, 9);
                due("act " + body + " " + act + " " + v, x.act(body, act, v), m.act(body, act, v));
                for (int k = -1; k < 26; k++) due("trace " + k, x.trace(k), m.trace(k));
                return;
            case 39:
                body = random.nextInt(3) == 0 ? -1 : body;
                due("keep", x.keep(shelf, body), m.keep(shelf, body));
                return;
            case 40: case 41:
                kind = near(0, 4);
                n = random.nextBoolean() ? n : near(0, 8);
                due("row", x.row(shelf, kind, n), m.row(shelf, kind, n));
                return;
            case 42:
                long wide = random.nextBoolean() ? random.nextLong() : in(-300, 300);
                due("put", x.put(shelf, i, wide), m.put(shelf, i, wide));
                return;
            case 43:
                due("element", x.element(shelf, i), m.element(shelf, i));
                return;
            case 44: case 45:
                n = near(0, 5);
                due("shift", x.shift(shelf, i, other, j, n), m.shift(shelf, i, other, j, n));
                for (int k = 0; k < 60; k++) due("element", x.element(other, k), m.element(other, k));
                return;
            case 46:
                due("taken", x.taken(shelf, kind), m.taken(shelf, kind));
                return;
            default:
                for (int k = -1; k < 7; k++) due("count " + k, x.count(k), m.count(k));
        }
    }
}
