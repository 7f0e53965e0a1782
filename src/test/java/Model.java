import java.math.BigInteger;
import java.util.ArrayDeque;
import java.util.ArrayList;
import java.util.Arrays;
import java.util.Deque;
import java.util.List;

/** The document once more, as plainly and as slowly as it can be said, to be held against the class. */
final class Model {
    static final int BAD = -1, NOT = -2, FULL = -3, STATE = -5;
    static final long NONE = Long.MIN_VALUE;

    final List<int[]> people = new ArrayList<>();
    final List<int[]> tickets = new ArrayList<>();
    int hour, seen;
    String law;
    String tape = "";
    int[] led = new int[4];
    List<int[]> imageTickets;
    int imageHour;
    int[] imageLed;
    final Deque<int[]> undone = new ArrayDeque<>();
    final Deque<int[]> done = new ArrayDeque<>();
    final List<Integer> bodies = new ArrayList<>();
    List<Integer> trace = new ArrayList<>();
    final Object[] shelves = new Object[6];

    static final class Row {
        final int sort;
        final long[] v;

        Row(int sort, int n) {
            this.sort = sort;
            v = new long[n];
        }
    }

    static final class NoText extends RuntimeException {
        private static final long serialVersionUID = 1;
    }

    // ---- people, tickets

    int person(int wary) {
        if (wary < 0 || wary > 12) return BAD;
        if (people.size() == 6) return FULL;
        people.add(new int[] {wary, 0, 10, 0});
        return people.size() - 1;
    }

    int ticket(int holder, int forged) {
        if (!one(holder) || forged < 0 || forged > 1) return BAD;
        if (tickets.size() == 12) return FULL;
        tickets.add(new int[] {holder, forged, 0});
        return tickets.size() - 1;
    }

    boolean one(int i) {
        return i >= 0 && i < people.size();
    }

    int tickets(int shelf, int i, int n) {
        if (shelf < 0 || shelf > 5 || n < 1 || n > 12) return BAD;
        if (shelves[shelf] == null) return 0;
        if (!(shelves[shelf] instanceof Row r) || r.sort != 0) return -12;
        if (i < 0) return 0;
        int came = 0;
        while (came < n) {
            long at = (long) i + 3 * came;
            if (at + 2 >= r.v.length) break;
            int a = (int) at;
            if (!one((int) r.v[a]) || r.v[a + 1] < 0 || r.v[a + 1] > 1 || r.v[a + 2] < 0 || r.v[a + 2] > 4) break;
            if (tickets.size() == 12) break;
            tickets.add(new int[] {(int) r.v[a], (int) r.v[a + 1], (int) r.v[a + 2]});
            came++;
        }
        return came;
    }

    int mend(int number, int what, int v) {
        int was = of(number, what);
        if (what < 0 || what > 8 || was == BAD) return BAD;
        int[] most = {12, 1, 99, 9, people.size() - 1, 1, 4, 11, 9};
        if (v < 0 || v > most[what]) return BAD;
        if (was == v) return was;
        write(number, what, v);
        done.push(new int[] {number, what, was, v});
        undone.clear();
        if (done.size() > 40) done.removeLast();
        return was;
    }

    void write(int number, int what, int v) {
        if (what < 4) people.get(number)[what] = v;
        else if (what < 7) tickets.get(number)[what - 4] = v;
        else if (what == 7) hour = v;
        else seen = v;
    }

    int of(int number, int what) {
        if (what < 0 || what > 10) return BAD;
        if (what < 4) return one(number) ? people.get(number)[what] : BAD;
        if (what < 7) return number >= 0 && number < tickets.size() ? tickets.get(number)[what - 4] : BAD;
        if (what < 9) return number != 0 ? BAD : what == 7 ? hour : seen;
        if (!one(number)) return BAD;
        return (int) tickets.stream().filter(t -> t[0] == number && (what == 9 || t[1] == 0)).count();
    }

    int feed(int letter) {
        if (letter < 0 || letter > 255) return BAD;
        if (tape.length() == 120) return FULL;
        tape += (char) letter;
        return tape.length();
    }

    int law() {
        String text = tape;
        tape = "";
        if (isText(text)) {
            law = text;
            return 1;
        }
        for (int k = 0; k < text.length(); k++) {
            if (!goesOn(text.substring(0, k + 1))) return -100 - k;
        }
        return -100 - text.length();
    }

    /** Whether some TEXT begins so: then one also ends shortly, in a number and brackets. */
    static boolean goesOn(String begun) {
        for (String operand : new String[] {"", "1"}) {
            String whole = begun + operand;
            for (int k = 0; k <= 6; k++, whole += ")") {
                if (isText(whole)) return true;
            }
        }
        return false;
    }

    static boolean isText(String text) {
        try {
            new Reading(text, new int[6]).value();
            return true;
        } catch (NoText e) {
            return false;
        }
    }

    /** Works a TEXT out as it reads it. */
    static final class Reading {
        final String text;
        final int[] names;
        int at;
        int open;

        Reading(String text, int[] names) {
            this.text = text;
            this.names = names;
        }

        char next() {
            return at < text.length() ? text.charAt(at) : (char) 0xffff;
        }

        boolean eat(char c) {
            if (next() != c) return false;
            at++;
            return true;
        }

        int value() {
            Integer told = null;
            do {
                int e = e();
                boolean counts = true;
                if (eat('?')) {
                    counts = e != 0;
                    e = e();
                }
                if (counts && told == null) told = e;
            } while (eat(';'));
            if (at != text.length()) throw new NoText();
            return told == null ? 0 : told;
        }

        int e() {
            int v = a();
            while (eat('|')) {
                int w = a();
                v = v != 0 | w != 0 ? 1 : 0;
            }
            return v;
        }

        int a() {
            int v = b();
            while (eat('&')) {
                int w = b();
                v = v != 0 & w != 0 ? 1 : 0;
            }
            return v;
        }

        int b() {
            int v = s();
            if (eat('<')) return v < s() ? 1 : 0;
            if (eat('=')) return v == s() ? 1 : 0;
            if (eat('>')) return v > s() ? 1 : 0;
            return v;
        }

        int s() {
            int v = p();
            while (true) {
                if (eat('+')) v += p();
                else if (eat('-')) v -= p();
                else return v;
            }
        }

        int p() {
            int v = o();
            while (true) {
                if (eat('*')) {
                    v *= o();
                } else if (eat('/')) {
                    int w = o();
                    v = w == 0 ? 0 : v / w;
                } else if (eat('%')) {
                    int w = o();
                    v = w == 0 ? 0 : v % w;
                } else {
                    return v;
                }
            }
        }

        int o() {
            char c = next();
            if (c >= '0' && c <= '9') {
                int from = at;
                while (at < from + 4 && next() >= '0' && next() <= '9') at++;
                return Integer.parseInt(text.substring(from, at));
            }
            int name = "wbnfhs".indexOf(c);
            if (name >= 0) {
                at++;
                return names[name];
            }
            if (c != '!' && c != '-' && c != '(' || open == 6) throw new NoText();
            at++;
            open++;
            int v = c == '!' ? (o() == 0 ? 1 : 0) : c == '-' ? -o() : e();
            if (c == '(' && !eat(')')) throw new NoText();
            open--;
            return v;
        }
    }

    // ---- slippings, in thought on a copy of the holders

    int[] holders() {
        return tickets.stream().mapToInt(t -> t[0]).toArray();
    }

    boolean isTp(int tp) {
        return tp >= 0 && tp / 8 < tickets.size() && tp % 8 < people.size();
    }

    boolean can(int[] h, int tp) {
        return tickets.get(tp / 8)[2] != 4 && h[tp / 8] != tp % 8 && people.get(tp % 8)[1] == 0;
    }

    int odds(int[] h, int tp, int hourThen) {
        if (!can(h, tp)) return 0;
        int n = (int) Arrays.stream(h).filter(x -> x == tp % 8).count();
        int[] names = {people.get(tp % 8)[0], people.get(h[tp / 8])[0], n, tickets.get(tp / 8)[2], hourThen, seen};
        int v = law == null ? 12 - names[0] - seen : new Reading(law, names).value();
        return v < 0 ? 0 : v > 12 ? 12 : v;
    }

    int odds(int tp) {
        return isTp(tp) ? odds(holders(), tp, hour) : BAD;
    }

    static int[] with(int[] h, int tp) {
        int[] g = h.clone();
        g[tp / 8] = tp % 8;
        return g;
    }

    int refusal(int shelf) {
        if (shelf < 0 || shelf > 5) return BAD;
        if (shelves[shelf] == null) return -11;
        return shelves[shelf] instanceof Row r && r.sort == 0 ? 0 : -12;
    }

    List<Integer> evening(int shelf) {
        List<Integer> list = new ArrayList<>();
        for (long v : ((Row) shelves[shelf]).v) {
            if (!isTp((int) v) || list.size() == 12) break;
            list.add((int) v);
        }
        return list;
    }

    /** Holders by WELL; counts[0] went well, counts[1] the bits left out. */
    int[] byWell(int shelf, int n, int[] counts) {
        int[] h = holders();
        List<Integer> evening = evening(shelf);
        for (int k = 0; k < Math.min(n, evening.size()); k++) {
            int tp = evening.get(k);
            if (!can(h, tp)) counts[1] += 1 << k;
            else if (odds(h, tp, hour) >= 6) {
                h = with(h, tp);
                counts[0]++;
            }
        }
        return h;
    }

    int later(int shelf, int n, int ticket) {
        if (shelf < 0 || shelf > 5 || n < 0 || n > 12 || ticket < 0 || ticket >= tickets.size()) return BAD;
        if (refusal(shelf) != 0) return refusal(shelf);
        return byWell(shelf, n, new int[2])[ticket];
    }

    int eve(int shelf, int n, int one) {
        if (shelf < 0 || shelf > 5 || n < 0 || n > 12 || one < -2 || one >= people.size()) return BAD;
        if (refusal(shelf) != 0) return refusal(shelf);
        int[] counts = new int[2];
        int[] h = byWell(shelf, n, counts);
        return one == -1 ? counts[0] : one == -2 ? counts[1] : reals(h, one);
    }

    int reals(int[] h, int one) {
        int sum = 0;
        for (int t = 0; t < h.length; t++) if (h[t] == one && tickets.get(t)[1] == 0) sum++;
        return sum;
    }

    int allReals() {
        return (int) tickets.stream().filter(t -> t[1] == 0).count();
    }

    static long part(BigInteger above, BigInteger below, int part) {
        if (above.signum() == 0) return part;
        BigInteger g = above.gcd(below);
        return (part == 0 ? above : below).divide(g).longValueExact();
    }

    static long part(long above, long below, int part) {
        return part(BigInteger.valueOf(above), BigInteger.valueOf(below), part);
    }

    long likely(int shelf, int set, int part) {
        if (refusal(shelf) != 0 || set < 0 || set > 4095 || part < 0 || part > 1) return NONE;
        List<Integer> evening = evening(shelf);
        BigInteger above = BigInteger.valueOf(set >= 1 << evening.size() ? 0 : 1);
        BigInteger below = BigInteger.ONE;
        int[] h = holders();
        for (int k = 0; k < evening.size(); k++) {
            int tp = evening.get(k);
            boolean well = (set & 1 << k) != 0;
            int odds = odds(h, tp, hour);
            above = above.multiply(BigInteger.valueOf(well ? odds : 12 - odds));
            below = below.multiply(BigInteger.valueOf(12));
            if (well && can(h, tp)) h = with(h, tp);
        }
        return part(above, below, part);
    }

    long all(int shelf, int part) {
        if (refusal(shelf) != 0 || part < 0 || part > 1) return NONE;
        BigInteger above = BigInteger.ONE;
        BigInteger below = BigInteger.ONE;
        int[] h = holders();
        for (int tp : evening(shelf)) {
            if (!can(h, tp)) continue;
            above = above.multiply(BigInteger.valueOf(odds(h, tp, hour)));
            below = below.multiply(BigInteger.valueOf(12));
            h = with(h, tp);
        }
        return part(above, below, part);
    }

    long king(int one, int part) {
        if (!one(one) || part < 0 || part > 1) return NONE;
        return part(of(one, 10), Math.max(1, allReals()), part);
    }

    int safe() {
        int bits = 0;
        for (int i = 0; i < people.size(); i++) if (of(i, 10) == 0) bits += 1 << i;
        return bits;
    }

    int likeliest() {
        for (int n = 12; n > 0; n--) for (int i = 0; i < people.size(); i++) if (of(i, 10) == n) return i;
        return NOT;
    }

    int watch(int one) {
        if (!one(one)) return BAD;
        int[] h = holders();
        for (int o = 12; o >= 0; o--) {
            for (int who = 0; who < people.size(); who++) {
                for (int t = 0; t < h.length; t++) {
                    int tp = 8 * t + one;
                    if (h[t] == who && can(h, tp) && odds(h, tp, hour) == o) return 100 * o + who;
                }
            }
        }
        return NOT;
    }

    /** Twelfths of twelfths .. of the real TICKETS that another one has then. */
    long free(int one, int[] h, int t, int hourThen) {
        if (t == 0) return allReals() - reals(h, one);
        long stay = free(one, h, t - 1, Math.min(11, hourThen + 1));
        long most = 12 * stay;
        for (int tp = 0; tp < 8 * h.length; tp++) most = Math.max(most, worth(one, h, t, hourThen, tp, stay));
        return most;
    }

    long worth(int one, int[] h, int t, int hourThen, int tp, long stay) {
        if (!isTp(tp) || h[tp / 8] != one || tickets.get(tp / 8)[1] == 1 || !can(h, tp)) return -1;
        int o = odds(h, tp, hourThen);
        return o * free(one, with(h, tp), t - 1, Math.min(11, hourThen + 1)) + (12 - o) * stay;
    }

    long rid(int one, int t, int part) {
        if (!one(one) || t < 0 || t > 3 || part < 0 || part > 1) return NONE;
        if (allReals() == 0) return 1;
        return part(free(one, holders(), t, hour), (long) Math.pow(12, t) * allReals(), part);
    }

    int first(int one, int t) {
        if (!one(one) || t < 0 || t > 3) return BAD;
        if (t == 0) return NOT;
        int[] h = holders();
        long stay = free(one, h, t - 1, Math.min(11, hour + 1));
        long most = free(one, h, t, hour);
        if (most == 12 * stay) return NOT;
        for (int tp = 0; tp < 8 * h.length; tp++) if (worth(one, h, t, hour, tp, stay) == most) return tp;
        throw new IllegalStateException();
    }

    // ---- money, friends

    int hire(int one, int k, int what) {
        if (!one(one) || k < 0 || k > 12 || what < 0 || what > 1) return BAD;
        if (tickets.stream().filter(t -> t[0] == one && t[2] < 4).count() < k) return NOT;
        List<int[]> places = new ArrayList<>();
        for (int i = 0; i < people.size(); i++) {
            int[] p = people.get(i);
            for (int j = 0; j < p[3] && i != one && p[1] == 0; j++) places.add(new int[] {p[2], i});
        }
        places.sort((a, b) -> a[0] != b[0] ? a[0] - b[0] : a[1] - b[1]);
        if (places.size() < k || k == 0 && what == 1) return NOT;
        return what == 1 ? places.get(k - 1)[1] : places.subList(0, k).stream().mapToInt(p -> p[0]).sum();
    }

    int friend(int one, int x) {
        if (!one(one) || x < 0 || x > 12) return BAD;
        if (allReals() == 0) return x == 0 ? 0 : NOT;
        int from = (int) tickets.stream().filter(t -> t[0] != one && t[1] == 0 && t[2] < 4).count();
        if (people.get(one)[1] == 1) from = 0;
        int needed = Math.max(0, (x * allReals() + 11) / 12 - of(one, 10));
        return needed <= from ? needed : NOT;
    }

    int share(int one, int v) {
        if (!one(one) || v < 0 || v > 9999) return BAD;
        return allReals() == 0 ? 0 : v * of(one, 10) / allReals();
    }

    int half() {
        if (allReals() == 0) return NOT;
        for (int size = 1; size <= 6; size++) {
            for (int bits = 1; bits < 1 << people.size(); bits++) {
                int sum = 0;
                for (int i = 0; i < people.size(); i++) if ((bits >> i) % 2 == 1) sum += of(i, 10);
                if (Integer.bitCount(bits) == size && 2 * sum >= allReals()) return bits;
            }
        }
        throw new IllegalStateException();
    }

    // ---- read back

    int behind(int eve, int told, int what) {
        if (eve < 0 || eve > 5 || told < 0 || told > 5 || what < 0 || what > 4) return BAD;
        if (shelves[eve] == null || shelves[told] == null) return -11;
        if (refusal(eve) != 0 || refusal(told) != 0) return -12;
        List<Integer> evening = evening(eve);
        long[] row = ((Row) shelves[told]).v;
        int many = 0, fewest = NOT, which = NOT, certain = 4095, likeliest = NOT;
        BigInteger most = BigInteger.ZERO;
        for (int bits = 0; bits < 1 << evening.size(); bits++) {
            BigInteger weight = weightOf(evening, bits, row, what == 4);
            if (weight == null) continue;
            many++;
            certain &= bits;
            if (fewest == NOT || Integer.bitCount(bits) < fewest) {
                fewest = Integer.bitCount(bits);
                which = bits;
            }
            if (weight.compareTo(most) > 0) {
                most = weight;
                likeliest = bits;
            }
        }
        return new int[] {many, fewest, which, many == 0 ? 0 : certain, likeliest}[what];
    }

    /** In twelfths of twelfths ..; null, if it is no such way. */
    BigInteger weightOf(List<Integer> evening, int bits, long[] row, boolean byOdds) {
        int[] h = holders();
        BigInteger weight = BigInteger.ONE;
        for (int k = 0; k < evening.size(); k++) {
            int tp = evening.get(k);
            boolean well = (bits & 1 << k) != 0;
            if (well && !can(h, tp)) return null;
            int odds = byOdds ? odds(h, tp, hour) : 1;
            weight = weight.multiply(BigInteger.valueOf(well ? odds : 12 - odds));
            if (well) h = with(h, tp);
        }
        for (int t = 0; t < h.length && t < row.length; t++) if (row[t] != -1 && row[t] != h[t]) return null;
        return weight;
    }

    int drawn(int seed, int nm, int one) {
        if (nm < 0 || nm / 100 < 1 || nm / 100 > 30 || nm % 100 < 1 || nm % 100 > 30) return BAD;
        if (one < -1 || one >= people.size()) return BAD;
        int z = seed, wells = 0, kings = 0;
        for (int k = 0; k < nm / 100; k++) {
            int[] h = holders();
            for (int m = 0; m < nm % 100; m++) {
                z = z * 1103515245 + 12345;
                if (tickets.isEmpty()) continue;
                int tp = 8 * ((z >>> 8) % tickets.size()) + (z >>> 12) % people.size();
                if ((z >>> 20) % 12 < odds(h, tp, hour)) {
                    h = with(h, tp);
                    wells++;
                }
            }
            z = z * 1103515245 + 12345;
            List<Integer> reals = new ArrayList<>();
            for (int t = 0; t < h.length; t++) if (tickets.get(t)[1] == 0) reals.add(t);
            if (!reals.isEmpty() && h[reals.get((z >>> 8) % reals.size())] == one) kings++;
        }
        return one == -1 ? wells : kings;
    }

    // ---- in deed

    int slip(int tp, int well) {
        if (!isTp(tp) || well < 0 || well > 1) return BAD;
        if (!can(holders(), tp)) return STATE;
        led[0]++;
        led[1] += well;
        if (well == 1) tickets.get(tp / 8)[0] = tp % 8;
        return tickets.get(tp / 8)[0];
    }

    int fold(int ticket) {
        if (ticket < 0 || ticket >= tickets.size()) return BAD;
        if (tickets.get(ticket)[2] == 4) return STATE;
        led[2]++;
        return ++tickets.get(ticket)[2];
    }

    int hour() {
        led[3]++;
        hour = (hour + 1) % 12;
        return hour;
    }

    int led(int what) {
        return what < 0 || what > 3 ? BAD : led[what];
    }

    int image() {
        imageTickets = new ArrayList<>();
        for (int[] t : tickets) imageTickets.add(t.clone());
        imageHour = hour;
        imageLed = led.clone();
        return led[0];
    }

    int back() {
        if (imageLed == null) return STATE;
        hour = imageHour;
        led = imageLed.clone();
        for (int t = 0; t < imageTickets.size(); t++) {
            tickets.get(t)[0] = imageTickets.get(t)[0];
            tickets.get(t)[2] = imageTickets.get(t)[2];
        }
        return led[0];
    }

    int undo() {
        if (done.isEmpty()) return STATE;
        int[] c = done.pop();
        write(c[0], c[1], c[2]);
        undone.push(c);
        return done.size();
    }

    int redo() {
        if (undone.isEmpty()) return STATE;
        int[] c = undone.pop();
        write(c[0], c[1], c[3]);
        done.push(c);
        return undone.size();
    }

    // ---- acts: here by classes of Java itself

    int body(int kind) {
        if (kind < 0 || kind > 7) return BAD;
        if (bodies.size() == 50) return FULL;
        bodies.add(kind);
        return bodies.size() - 1;
    }

    interface Slips {
        int slips(int x);
    }

    static class Hat implements Slips {
        int n;
        List<Integer> ran;

        public int slips(int x) { ran.add(1); return x + n; }
        int folds(int x) { ran.add(10); return slips(x) * 2; }
        int proves(int x) { ran.add(11); return x ^ n; }
        int tells(int x) { ran.add(2); return folds(x) - proves(1); }
    }

    static class Shoe extends Hat {
        @Override public int slips(int x) { ran.add(20); return super.slips(x) + 3; }
    }

    static class Bride extends Hat {
        @Override int folds(int x) { ran.add(30); return -super.folds(x); }
    }

    static class Child extends Bride {
        @Override int proves(int x) { ran.add(40); return super.proves(x) * 3; }
        @Override int folds(int x) { ran.add(41); return super.folds(x + 1); }
    }

    static class Pauper extends Shoe {
        @Override int tells(int x) { ran.add(50); return super.tells(x) ^ 5; }
    }

    static class Drunk extends Child {
        @Override int proves(int x) { ran.add(60); return super.proves(x) - slips(2); }
        @Override int tells(int x) { ran.add(61); return super.tells(x) + 1; }
    }

    static class Wise extends Hat {
        @Override public int slips(int x) { ran.add(70); return super.slips(x) * 2; }
    }

    static class Boat extends Wise {
        @Override int folds(int x) { ran.add(80); return super.folds(x) + proves(2); }
        @Override public int slips(int x) { ran.add(81); return super.slips(x) - 1; }
    }

    static Hat hat(int kind) {
        return new Hat[] {new Hat(), new Shoe(), new Bride(), new Child(), new Pauper(), new Drunk(), new Wise(), new Boat()}[kind];
    }

    int act(int body, int act, int x) {
        trace = new ArrayList<>();
        if (body < 0 || body >= bodies.size() || act < 0 || act > 3) return 0;
        Hat h = hat(bodies.get(body));
        h.n = body;
        h.ran = trace;
        return act == 0 ? h.slips(x) : act == 1 ? h.folds(x) : act == 2 ? h.proves(x) : h.tells(x);
    }

    int trace(int i) {
        return i < 0 || i > 23 || i >= trace.size() ? BAD : trace.get(i);
    }

    // ---- shelves

    int keep(int shelf, int body) {
        if (shelf < 0 || shelf > 5 || body < -1 || body >= bodies.size()) return BAD;
        shelves[shelf] = body == -1 ? null : (Object) bodies.get(body);
        return 1;
    }

    int row(int shelf, int sort, int n) {
        if (shelf < 0 || shelf > 5 || sort < 0 || sort > 4 || n > 60) return BAD;
        if (n < 0) return -14;
        shelves[shelf] = new Row(sort, n);
        return 1;
    }

    int placeRefusal(int shelf, int i) {
        if (shelf < 0 || shelf > 5) return BAD;
        if (shelves[shelf] == null) return -11;
        if (!(shelves[shelf] instanceof Row r)) return -12;
        return i < 0 || i >= r.v.length ? -13 : 0;
    }

    int put(int shelf, int i, long v) {
        int refusal = placeRefusal(shelf, i);
        if (refusal != 0) return refusal;
        Row r = (Row) shelves[shelf];
        r.v[i] = r.sort == 0 ? (byte) v : r.sort == 1 ? (short) v : r.sort == 2 ? (int) v : r.sort == 3 ? v : v != 0 ? 1 : 0;
        return 1;
    }

    long element(int shelf, int i) {
        return placeRefusal(shelf, i) != 0 ? NONE : ((Row) shelves[shelf]).v[i];
    }

    int shift(int shelf, int i, int other, int j, int n) {
        if (shelf < 0 || shelf > 5 || other < 0 || other > 5) return BAD;
        if (shelves[shelf] == null || shelves[other] == null) return -11;
        if (!(shelves[shelf] instanceof Row a) || !(shelves[other] instanceof Row b) || a.sort != b.sort) return -12;
        if (i < 0 || j < 0 || n < 0 || (long) i + n > a.v.length || (long) j + n > b.v.length) return -13;
        long[] moved = Arrays.copyOfRange(a.v, i, i + n);
        for (int k = 0; k < n; k++) b.v[j + k] = moved[k];
        return n;
    }

    int taken(int shelf, int k) {
        if (shelf < 0 || shelf > 5 || k < 0 || k > 7) return BAD;
        if (shelves[shelf] == null) return -11;
        if (!(shelves[shelf] instanceof Integer kind)) return -12;
        return hat(k).getClass().isInstance(hat(kind)) ? kind : -12;
    }

    int count(int what) {
        int[] counts = {people.size(), tickets.size(), tape.length(), done.size(), bodies.size(), trace.size()};
        return what < 0 || what > 5 ? BAD : counts[what];
    }
}
