/** A year's tickets that nobody wants, after the document's promises 1 to 43. */
public final class LotNobodyWants {
    public static final int BAD = -1, NOT = -2, FULL = -3, STATE = -5, VOID = -2000000000;

    private static final int NOTHING_THERE = -11, OTHER_KIND = -12, NO_PLACE = -13, BELOW_ZERO = -14;
    private static final int MOST_PEOPLE = 6, MOST_TICKETS = 12, MOST_SLIPPINGS = 12, LAST_HOUR = 11;
    private static final int WARY = 0, CHILD = 1, PRICE = 2, TAKES = 3, HOLDER = 4, FORGED = 5, FOLDS = 6;
    private static final int HOUR = 7, SEEN = 8, HAS = 9, HAS_REAL = 10;
    private static final int CONSENT = 4, DEAREST = 99, MOST_DRAWN = 30, MOST_BITS = 4095;

    private final Year year;
    private final Law rule;
    private final Reader reader;
    private final Thought thought;
    private final Shelves shelves;
    private final Eve evening;
    private final Ways ways;
    private final Rid ridding;
    private final Deeds deeds;
    private final Changes changes;
    private final Hats hats;

    public LotNobodyWants() {
        year = new Year();
        rule = new Law();
        reader = new Reader();
        thought = new Thought(year, rule);
        shelves = new Shelves();
        evening = new Eve(year, thought);
        ways = new Ways(year, thought, evening);
        ridding = new Rid(year, thought);
        deeds = new Deeds(year);
        changes = new Changes(year);
        hats = new Hats();
    }

    // ---- people, tickets

    public int person(int wary) {
        if (!year.mayBe(WARY, wary)) {
            return BAD;
        }
        return year.addPerson(wary);
    }

    public int ticket(int holder, int forged) {
        if (!year.mayBe(HOLDER, holder) || !year.mayBe(FORGED, forged)) {
            return BAD;
        }
        return year.addTicket(holder, forged, 0);
    }

    public int tickets(int shelf, int i, int n) {
        if (!shelves.isShelf(shelf) || n < 1 || n > MOST_TICKETS) {
            return BAD;
        }
        int refusal = shelves.refusalOfBytes(shelf);
        if (refusal == OTHER_KIND) {
            return OTHER_KIND;
        }
        if (refusal == NOTHING_THERE || i < 0) {
            return 0;
        }
        int came = 0;
        for (int k = 0; k < n && addFromRow(shelf, i, k); k++) {
            came++;
        }
        return came;
    }

    /** Whether the k-th three from place i on came as a TICKET. */
    private boolean addFromRow(int shelf, int i, int k) {
        long at = i + 3L * k;
        if (at + 3 > shelves.sizeOf(shelf)) {
            return false;
        }
        int holder = (int) shelves.get(shelf, (int) at);
        int forged = (int) shelves.get(shelf, (int) at + 1);
        int folds = (int) shelves.get(shelf, (int) at + 2);
        if (!year.mayBe(HOLDER, holder) || !year.mayBe(FORGED, forged) || !year.mayBe(FOLDS, folds)) {
            return false;
        }
        return year.addTicket(holder, forged, folds) != FULL;
    }

    public int mend(int number, int what, int v) {
        if (!year.hasNumber(what, number) || !year.mayBe(what, v)) {
            return BAD;
        }
        int was = year.get(what, number);
        if (was != v) {
            changes.add(what, number, was, v);
            year.set(what, number, v);
        }
        return was;
    }

    public int of(int number, int what) {
        if (what == HAS || what == HAS_REAL) {
            if (!year.isPerson(number)) {
                return BAD;
            }
            return what == HAS ? now().heldBy(number) : now().realsOf(number);
        }
        return year.hasNumber(what, number) ? year.get(what, number) : BAD;
    }

    public int feed(int letter) {
        if (letter < 0 || letter > 255) {
            return BAD;
        }
        return reader.addByte(letter);
    }

    public int law() {
        int fault = reader.readText();
        if (fault < 0) {
            rule.become(reader.draft());
        }
        reader.emptyTape();
        return fault < 0 ? 1 : -100 - fault;
    }

    public int odds(int tp) {
        return year.isSlipping(tp) ? now().oddsOf(tp >> 3, tp & 7) : BAD;
    }

    /** THOUGHT as all stands now. */
    private Thought now() {
        thought.begin();
        return thought;
    }

    // ---- eves in thought

    public int later(int shelf, int n, int ticket) {
        if (!shelves.isShelf(shelf) || n < 0 || n > MOST_SLIPPINGS || !year.isTicket(ticket)) {
            return BAD;
        }
        int refusal = shelves.refusalOfBytes(shelf);
        if (refusal != 0) {
            return refusal;
        }
        evening.begin(shelves, shelf);
        evening.goByWell(n);
        return thought.holderOf(ticket);
    }

    public int eve(int shelf, int n, int one) {
        if (!shelves.isShelf(shelf) || n < 0 || n > MOST_SLIPPINGS || !(one == -1 || one == -2 || year.isPerson(one))) {
            return BAD;
        }
        int refusal = shelves.refusalOfBytes(shelf);
        if (refusal != 0) {
            return refusal;
        }
        evening.begin(shelves, shelf);
        evening.goByWell(n);
        if (one == -1) {
            return evening.wells();
        }
        return one == -2 ? evening.leftOut() : thought.realsOf(one);
    }

    public long likely(int shelf, int set, int part) {
        if (shelves.refusalOfBytes(shelf) != 0 || set < 0 || set > MOST_BITS || !isPart(part)) {
            return Long.MIN_VALUE;
        }
        evening.begin(shelves, shelf);
        evening.weighSet(set);
        return partOf(evening.above(), evening.below(), part);
    }

    public long all(int shelf, int part) {
        if (shelves.refusalOfBytes(shelf) != 0 || !isPart(part)) {
            return Long.MIN_VALUE;
        }
        evening.begin(shelves, shelf);
        evening.weighAllThatCan();
        return partOf(evening.above(), evening.below(), part);
    }

    private static boolean isPart(int part) {
        return part == 0 || part == 1;
    }

    /** What stands above (part 0) or below the line, in lowest terms. */
    private static long partOf(long above, long below, int part) {
        if (above == 0 || below == 0) {
            return part;
        }
        long larger = below;
        long smaller = above;
        for (int k = 0; k < 200 && smaller != 0; k++) {
            long rest = larger % smaller;
            larger = smaller;
            smaller = rest;
        }
        if (larger == 0) {
            return part;
        }
        return (part == 0 ? above : below) / larger;
    }

    public long king(int one, int part) {
        if (!year.isPerson(one) || !isPart(part)) {
            return Long.MIN_VALUE;
        }
        Thought now = now();
        return partOf(now.realsOf(one), now.reals(), part);
    }

    public int safe() {
        Thought now = now();
        int bits = 0;
        for (int one = 0; one < year.people(); one++) {
            if (now.realsOf(one) == 0) {
                bits |= 1 << one;
            }
        }
        return bits;
    }

    public int likeliest() {
        Thought now = now();
        int most = 0;
        int who = NOT;
        for (int one = 0; one < year.people(); one++) {
            int reals = now.realsOf(one);
            if (reals > most) {
                most = reals;
                who = one;
            }
        }
        return who;
    }

    public int watch(int one) {
        if (!year.isPerson(one)) {
            return BAD;
        }
        Thought now = now();
        int greatest = -1;
        int who = NOT;
        for (int ticket = 0; ticket < year.tickets(); ticket++) {
            if (now.canSlip(ticket, one)) {
                int odds = now.oddsOf(ticket, one);
                int from = now.holderOf(ticket);
                if (odds > greatest || odds == greatest && from < who) {
                    greatest = odds;
                    who = from;
                }
            }
        }
        return greatest < 0 ? NOT : 100 * greatest + who;
    }

    public long rid(int one, int t, int part) {
        if (!year.isPerson(one) || t < 0 || t > Rid.MOST_HOURS || !isPart(part)) {
            return Long.MIN_VALUE;
        }
        ridding.begin(one, t);
        return partOf(ridding.freeAtBest(), ridding.freeAtMost(), part);
    }

    public int first(int one, int t) {
        if (!year.isPerson(one) || t < 0 || t > Rid.MOST_HOURS) {
            return BAD;
        }
        ridding.begin(one, t);
        return ridding.firstSlipping();
    }

    // ---- money, friends

    public int hire(int one, int k, int what) {
        if (!year.isPerson(one) || k < 0 || k > MOST_TICKETS || what < 0 || what > 1) {
            return BAD;
        }
        if (now().looseOf(one) < k) {
            return NOT;
        }
        int left = k;
        int money = 0;
        int last = NOT;
        for (int price = 0; price <= DEAREST && left > 0; price++) {
            for (int other = 0; other < year.people() && left > 0; other++) {
                int takes = Math.min(left, takesFor(one, other, price));
                if (takes > 0) {
                    left -= takes;
                    money += takes * price;
                    last = other;
                }
            }
        }
        if (left > 0) {
            return NOT;
        }
        return what == 0 ? money : last;
    }

    /** How many TICKETS another takes from one for just that price. */
    private int takesFor(int one, int other, int price) {
        boolean hired = other != one && year.get(CHILD, other) == 0 && year.get(PRICE, other) == price;
        return hired ? year.get(TAKES, other) : 0;
    }

    public int friend(int one, int x) {
        if (!year.isPerson(one) || x < 0 || x > 12) {
            return BAD;
        }
        Thought now = now();
        int reals = now.reals();
        if (reals == 0) {
            return x == 0 ? 0 : NOT;
        }
        int has = now.realsOf(one);
        int most = year.get(CHILD, one) == 1 ? 0 : now.looseReals() - now.looseRealsOf(one);
        for (int come = 0; come <= most; come++) {
            if (12 * (has + come) >= x * reals) {
                return come;
            }
        }
        return NOT;
    }

    public int share(int one, int v) {
        if (!year.isPerson(one) || v < 0 || v > 9999) {
            return BAD;
        }
        Thought now = now();
        int reals = now.reals();
        return reals == 0 ? 0 : v * now.realsOf(one) / reals;
    }

    public int half() {
        Thought now = now();
        int reals = now.reals();
        if (reals == 0) {
            return NOT;
        }
        int best = NOT;
        int fewest = MOST_PEOPLE + 1;
        for (int bits = 0; bits < 1 << year.people(); bits++) {
            int size = Integer.bitCount(bits);
            if (size < fewest && 2 * realsOfSet(now, bits) >= reals) {
                fewest = size;
                best = bits;
            }
        }
        return best;
    }

    private int realsOfSet(Thought now, int bits) {
        int sum = 0;
        for (int one = 0; one < year.people(); one++) {
            if ((bits >> one & 1) == 1) {
                sum += now.realsOf(one);
            }
        }
        return sum;
    }

    // ---- read back

    public int behind(int eve, int told, int what) {
        if (!shelves.isShelf(eve) || !shelves.isShelf(told) || what < 0 || what > 4) {
            return BAD;
        }
        if (shelves.isEmpty(eve) || shelves.isEmpty(told)) {
            return NOTHING_THERE;
        }
        if (shelves.refusalOfBytes(eve) != 0 || shelves.refusalOfBytes(told) != 0) {
            return OTHER_KIND;
        }
        evening.begin(shelves, eve);
        ways.goThrough(shelves, told, what == 4);
        switch (what) {
            case 0: return ways.howMany();
            case 1: return ways.fewest();
            case 2: return ways.fewestBits();
            case 3: return ways.certain();
            default: return ways.likeliestBits();
        }
    }

    public int drawn(int seed, int nm, int one) {
        int years = nm / 100;
        int slippings = nm % 100;
        if (years < 1 || years > MOST_DRAWN || slippings < 1 || slippings > MOST_DRAWN) {
            return BAD;
        }
        if (one != -1 && !year.isPerson(one)) {
            return BAD;
        }
        int z = seed;
        int wells = 0;
        int crowned = 0;
        for (int k = 0; k < years; k++) {
            thought.begin();
            for (int m = 0; m < slippings; m++) {
                z = nextDraw(z);
                wells += thought.slipDrawn(z) ? 1 : 0;
            }
            z = nextDraw(z);
            crowned += thought.kingDrawn(z) == one ? 1 : 0;
        }
        return one == -1 ? wells : crowned;
    }

    private static int nextDraw(int z) {
        return z * 1103515245 + 12345;
    }

    // ---- in deed

    public int slip(int tp, int well) {
        if (!year.isSlipping(tp) || well < 0 || well > 1) {
            return BAD;
        }
        int ticket = tp >> 3;
        int to = tp & 7;
        if (!now().canSlip(ticket, to)) {
            return STATE;
        }
        deeds.note(Deeds.SLIPPINGS);
        if (well == 1) {
            deeds.note(Deeds.WELL);
            year.set(HOLDER, ticket, to);
        }
        return year.get(HOLDER, ticket);
    }

    public int fold(int ticket) {
        if (!year.isTicket(ticket)) {
            return BAD;
        }
        int folds = year.get(FOLDS, ticket);
        if (folds >= CONSENT) {
            return STATE;
        }
        deeds.note(Deeds.FOLDED);
        year.set(FOLDS, ticket, folds + 1);
        return folds + 1;
    }

    public int hour() {
        int hour = year.hourNow() >= LAST_HOUR ? 0 : year.hourNow() + 1;
        deeds.note(Deeds.HOURS);
        year.set(HOUR, 0, hour);
        return hour;
    }

    public int led(int what) {
        return what < 0 || what >= Deeds.SORTS ? BAD : deeds.noted(what);
    }

    public int image() {
        deeds.keepImage();
        return deeds.noted(Deeds.SLIPPINGS);
    }

    public int back() {
        if (!deeds.hasImage()) {
            return STATE;
        }
        deeds.layBack();
        return deeds.noted(Deeds.SLIPPINGS);
    }

    public int undo() {
        if (changes.done() == 0) {
            return STATE;
        }
        changes.undoLatest();
        return changes.done();
    }

    public int redo() {
        if (changes.undone() == 0) {
            return STATE;
        }
        changes.redoNext();
        return changes.undone();
    }

    // ---- acts, shelves

    public int body(int kind) {
        return Hats.isKind(kind) ? hats.addBody(kind) : BAD;
    }

    public int act(int body, int act, int x) {
        return hats.begin(body, act, x);
    }

    public int trace(int i) {
        return i < 0 || i >= hats.traced() ? BAD : hats.traceAt(i);
    }

    public int keep(int shelf, int body) {
        if (!shelves.isShelf(shelf) || body != -1 && !hats.isBody(body)) {
            return BAD;
        }
        if (body == -1) {
            shelves.clear(shelf);
        } else {
            shelves.holdBody(shelf, body);
        }
        return 1;
    }

    public int row(int shelf, int sort, int n) {
        if (!shelves.isShelf(shelf) || !Shelves.isSort(sort) || n > Shelves.LONGEST) {
            return BAD;
        }
        if (n < 0) {
            return BELOW_ZERO;
        }
        shelves.holdRow(shelf, sort, n);
        return 1;
    }

    public int put(int shelf, int i, long v) {
        int refusal = shelves.refusalOfElement(shelf, i);
        if (refusal != 0) {
            return refusal;
        }
        shelves.set(shelf, i, v);
        return 1;
    }

    public long element(int shelf, int i) {
        return shelves.refusalOfElement(shelf, i) != 0 ? Long.MIN_VALUE : shelves.get(shelf, i);
    }

    public int shift(int shelf, int i, int other, int j, int n) {
        int refusal = shelves.refusalOfPair(shelf, other);
        if (refusal != 0) {
            return refusal;
        }
        if (n < 0 || !shelves.hasPlaces(shelf, i, n) || !shelves.hasPlaces(other, j, n)) {
            return NO_PLACE;
        }
        shelves.copy(shelf, i, other, j, n);
        return n;
    }

    public int taken(int shelf, int k) {
        if (!shelves.isShelf(shelf) || !Hats.isKind(k)) {
            return BAD;
        }
        if (shelves.isEmpty(shelf)) {
            return NOTHING_THERE;
        }
        int kind = shelves.isRow(shelf) ? -1 : hats.kindOf(shelves.bodyOn(shelf));
        return Hats.isUnder(kind, k) ? kind : OTHER_KIND;
    }

    public int count(int what) {
        switch (what) {
            case 0: return year.people();
            case 1: return year.tickets();
            case 2: return reader.tapeLength();
            case 3: return changes.done();
            case 4: return hats.bodies();
            case 5: return hats.ran();
            default: return BAD;
        }
    }

    /** PEOPLE, TICKETS, HOUR and SEEN: all numbers of mend(), by what and number. */
    private static final class Year {
        private static final int[] LARGEST = {12, 1, 99, 9, 5, 1, 4, 11, 9};
        private static final int PRICE_AT_FIRST = 10;

        private final int[][] numbers;
        private int people;
        private int tickets;

        Year() {
            numbers = new int[SEEN + 1][MOST_TICKETS];
            for (int one = 0; one < MOST_PEOPLE; one++) {
                numbers[PRICE][one] = PRICE_AT_FIRST;
            }
        }

        int people() {
            return people;
        }

        int tickets() {
            return tickets;
        }

        int hourNow() {
            return get(HOUR, 0);
        }

        boolean isPerson(int one) {
            return one >= 0 && one < people;
        }

        boolean isTicket(int ticket) {
            return ticket >= 0 && ticket < tickets;
        }

        /** Whether tp is 8 times a TICKET, and to whom. */
        boolean isSlipping(int tp) {
            return isTicket(tp >> 3) && isPerson(tp & 7);
        }

        boolean isReal(int ticket) {
            return isTicket(ticket) && get(FORGED, ticket) == 0;
        }

        boolean hasNumber(int what, int number) {
            if (what < WARY || what > SEEN || number < 0) {
                return false;
            }
            if (what >= HOUR) {
                return number == 0;
            }
            return number < (what >= HOLDER ? tickets : people);
        }

        boolean mayBe(int what, int v) {
            if (what < WARY || what > SEEN) {
                return false;
            }
            return what == HOLDER ? isPerson(v) : v >= 0 && v <= LARGEST[what];
        }

        int get(int what, int number) {
            return hasNumber(what, number) ? numbers[what][number] : 0;
        }

        void set(int what, int number, int v) {
            if (hasNumber(what, number)) {
                numbers[what][number] = v;
            }
        }

        int addPerson(int wary) {
            if (people >= MOST_PEOPLE) {
                return FULL;
            }
            people++;
            set(WARY, people - 1, wary);
            return people - 1;
        }

        int addTicket(int holder, int forged, int folds) {
            if (tickets >= MOST_TICKETS) {
                return FULL;
            }
            tickets++;
            set(HOLDER, tickets - 1, holder);
            set(FORGED, tickets - 1, forged);
            set(FOLDS, tickets - 1, folds);
            return tickets - 1;
        }
    }

    /** A TEXT as steps in the order in which a stack works them out. */
    private static final class Law {
        /** A step comes from a byte of its own, but for the end of the last LINE. */
        static final int MOST_STEPS = Reader.MOST_BYTES + 1;
        static final char NUMBER = '0', NAME = 'n', NEGATE = '~';

        private final int[] steps;
        private final int[] with;
        private final int[] stack;
        private final int[] names;
        private int size;
        private int top;

        Law() {
            steps = new int[MOST_STEPS];
            with = new int[MOST_STEPS];
            stack = new int[MOST_STEPS];
            names = new int[6];
        }

        boolean isTold() {
            return size > 0;
        }

        void clear() {
            size = 0;
        }

        void addStep(int step, int number) {
            if (size < MOST_STEPS) {
                steps[size] = step;
                with[size] = number;
                size++;
            }
        }

        void become(Law other) {
            size = other.size;
            System.arraycopy(other.steps, 0, steps, 0, MOST_STEPS);
            System.arraycopy(other.with, 0, with, 0, MOST_STEPS);
        }

        /** What the first LINE that counts gives; the NAMES come in the order in which Reader numbers them. */
        int workOut(int w, int b, int n, int f, int h, int s) {
            names[0] = w;
            names[1] = b;
            names[2] = n;
            names[3] = f;
            names[4] = h;
            names[5] = s;
            top = 0;
            boolean counts = true;
            for (int k = 0; k < size && k < MOST_STEPS; k++) {
                int step = steps[k];
                if (step == '?') {
                    counts = pop() != 0;
                } else if (step == ';') {
                    int value = pop();
                    if (counts) {
                        return value;
                    }
                    counts = true;
                } else {
                    doStep(step, with[k]);
                }
            }
            return 0;
        }

        private void doStep(int step, int number) {
            if (step == NUMBER) {
                push(number);
            } else if (step == NAME) {
                push(number >= 0 && number < names.length ? names[number] : 0);
            } else if (step == NEGATE) {
                push(-pop());
            } else if (step == '!') {
                push(pop() == 0 ? 1 : 0);
            } else {
                int right = pop();
                push(join(step, pop(), right));
            }
        }

        private static int join(int step, int left, int right) {
            switch (step) {
                case '|': return left != 0 || right != 0 ? 1 : 0;
                case '&': return left != 0 && right != 0 ? 1 : 0;
                case '<': return left < right ? 1 : 0;
                case '=': return left == right ? 1 : 0;
                case '>': return left > right ? 1 : 0;
                case '+': return left + right;
                case '-': return left - right;
                case '*': return left * right;
                case '/': return right == 0 ? 0 : left / right;
                case '%': return right == 0 ? 0 : left % right;
                default: return 0;
            }
        }

        private void push(int v) {
            if (top >= 0 && top < MOST_STEPS) {
                stack[top] = v;
                top++;
            }
        }

        private int pop() {
            if (top <= 0 || top > MOST_STEPS) {
                return 0;
            }
            top--;
            return stack[top];
        }
    }

    /** THE TAPE, read as a TEXT byte by byte without a way back: where it is stuck is the FAULT. */
    private static final class Reader {
        static final int MOST_BYTES = 120;
        private static final int MOST_OPEN = 6, MOST_DIGITS = 4, END = -1;
        private static final int LOOSEST = 1, COMPARED = 3, TIGHTEST = 5;

        private final int[] tape;
        private final Law draft;
        private int length;
        private int at;

        Reader() {
            tape = new int[MOST_BYTES];
            draft = new Law();
        }

        int addByte(int letter) {
            if (length >= MOST_BYTES) {
                return FULL;
            }
            tape[length] = letter;
            length++;
            return length;
        }

        int tapeLength() {
            return length;
        }

        void emptyTape() {
            length = 0;
        }

        Law draft() {
            return draft;
        }

        /** The FAULT, or -1. */
        int readText() {
            at = 0;
            draft.clear();
            boolean fits = readLine();
            for (int k = 0; k < MOST_BYTES && fits && next() == ';'; k++) {
                at++;
                fits = readLine();
            }
            return fits && at >= length ? -1 : at;
        }

        private int next() {
            return at >= 0 && at < length && at < MOST_BYTES ? tape[at] : END;
        }

        private boolean readLine() {
            boolean fits = readJoined(LOOSEST, 0);
            if (fits && next() == '?') {
                at++;
                draft.addStep('?', 0);
                fits = readJoined(LOOSEST, 0);
            }
            draft.addStep(';', 0);
            return fits;
        }

        /**
         * Reads what is joined by signs that bind as a level or tighter. Behind a sign of one
         * level no tighter one can come (what it joins is read), behind < = > none of the three.
         */
        private boolean readJoined(int level, int open) {
            int tightest = TIGHTEST;
            boolean fits = readOperand(open);
            for (int k = 0; k < MOST_BYTES && fits; k++) {
                int sign = next();
                int its = levelOf(sign);
                if (its < level || its > tightest) {
                    return true;
                }
                at++;
                fits = readJoined(its + 1, open);
                draft.addStep(sign, 0);
                tightest = its == COMPARED ? its - 1 : its;
            }
            return fits;
        }

        /** How tightly a sign joins: 0, if it is none that joins. */
        private static int levelOf(int sign) {
            switch (sign) {
                case '|': return LOOSEST;
                case '&': return 2;
                case '<': case '=': case '>': return COMPARED;
                case '+': case '-': return 4;
                case '*': case '/': case '%': return TIGHTEST;
                default: return 0;
            }
        }

        private boolean readOperand(int open) {
            int sign = next();
            int name = nameOf(sign);
            if (isDigit(sign)) {
                readNumber();
                return true;
            }
            if (name >= 0) {
                at++;
                draft.addStep(Law.NAME, name);
                return true;
            }
            if (open >= MOST_OPEN || sign != '!' && sign != '-' && sign != '(') {
                return false;
            }
            at++;
            return sign == '(' ? readEnclosed(open + 1) : readTurned(sign, open + 1);
        }

        private boolean readTurned(int sign, int open) {
            boolean fits = readOperand(open);
            draft.addStep(sign == '!' ? '!' : Law.NEGATE, 0);
            return fits;
        }

        private boolean readEnclosed(int open) {
            if (!readJoined(LOOSEST, open) || next() != ')') {
                return false;
            }
            at++;
            return true;
        }

        private void readNumber() {
            int number = 0;
            for (int k = 0; k < MOST_DIGITS && isDigit(next()); k++) {
                number = 10 * number + next() - '0';
                at++;
            }
            draft.addStep(Law.NUMBER, number);
        }

        private static boolean isDigit(int sign) {
            return sign >= '0' && sign <= '9';
        }

        private static int nameOf(int sign) {
            switch (sign) {
                case 'w': return 0;
                case 'b': return 1;
                case 'n': return 2;
                case 'f': return 3;
                case 'h': return 4;
                case 's': return 5;
                default: return -1;
            }
        }
    }

    /** Who holds what in thought: begun from now, it may go on without a deed. */
    private static final class Thought {
        private final Year year;
        private final Law rule;
        private final int[] held;

        Thought(Year year, Law rule) {
            this.year = year;
            this.rule = rule;
            held = new int[MOST_TICKETS];
        }

        void begin() {
            for (int ticket = 0; ticket < MOST_TICKETS; ticket++) {
                held[ticket] = year.get(HOLDER, ticket);
            }
        }

        int holderOf(int ticket) {
            return year.isTicket(ticket) ? held[ticket] : NOT;
        }

        void give(int ticket, int to) {
            if (year.isTicket(ticket)) {
                held[ticket] = to;
            }
        }

        int heldBy(int one) {
            int sum = 0;
            for (int ticket = 0; ticket < year.tickets(); ticket++) {
                sum += holderOf(ticket) == one ? 1 : 0;
            }
            return sum;
        }

        int realsOf(int one) {
            int sum = 0;
            for (int ticket = 0; ticket < year.tickets(); ticket++) {
                sum += holderOf(ticket) == one && year.isReal(ticket) ? 1 : 0;
            }
            return sum;
        }

        int reals() {
            int sum = 0;
            for (int ticket = 0; ticket < year.tickets(); ticket++) {
                sum += year.isReal(ticket) ? 1 : 0;
            }
            return sum;
        }

        /** How many TICKETS of one can go: real and FORGED ones. */
        int looseOf(int one) {
            int sum = 0;
            for (int ticket = 0; ticket < year.tickets(); ticket++) {
                sum += holderOf(ticket) == one && isLoose(ticket) ? 1 : 0;
            }
            return sum;
        }

        int looseRealsOf(int one) {
            int sum = 0;
            for (int ticket = 0; ticket < year.tickets(); ticket++) {
                sum += holderOf(ticket) == one && isLoose(ticket) && year.isReal(ticket) ? 1 : 0;
            }
            return sum;
        }

        int looseReals() {
            int sum = 0;
            for (int ticket = 0; ticket < year.tickets(); ticket++) {
                sum += isLoose(ticket) && year.isReal(ticket) ? 1 : 0;
            }
            return sum;
        }

        private boolean isLoose(int ticket) {
            return year.get(FOLDS, ticket) < CONSENT;
        }

        boolean canSlip(int ticket, int to) {
            return year.isTicket(ticket) && isLoose(ticket) && canGive(holderOf(ticket), to);
        }

        private boolean canGive(int from, int to) {
            return from != to && year.isPerson(to) && year.get(CHILD, to) == 0;
        }

        /** Odds by now's HOUR; 0, if it can't be. */
        int oddsOf(int ticket, int to) {
            if (!canSlip(ticket, to)) {
                return 0;
            }
            return oddsBy(holderOf(ticket), to, heldBy(to), year.get(FOLDS, ticket), year.hourNow());
        }

        /** Odds, where the one it is slipped to has so many TICKETS. */
        int oddsBy(int from, int to, int has, int folds, int hour) {
            if (!canGive(from, to) || folds >= CONSENT) {
                return 0;
            }
            int wary = year.get(WARY, to);
            int seen = year.get(SEEN, 0);
            int told = 12 - wary - seen;
            if (rule.isTold()) {
                told = rule.workOut(wary, year.get(WARY, from), has, folds, hour, seen);
            }
            return Math.max(0, Math.min(12, told));
        }

        /** Whether a SLIPPING by z can be and goes well; then it is done in thought. */
        boolean slipDrawn(int z) {
            int tickets = year.tickets();
            int people = year.people();
            if (tickets <= 0 || people <= 0) {
                return false;
            }
            int ticket = (z >>> 8) % tickets;
            int to = (z >>> 12) % people;
            boolean well = (z >>> 20) % 12 < oddsOf(ticket, to);
            if (well) {
                give(ticket, to);
            }
            return well;
        }

        /** Who holds the real TICKET drawn by z; NOT without any. */
        int kingDrawn(int z) {
            int reals = reals();
            if (reals <= 0) {
                return NOT;
            }
            int ahead = (z >>> 8) % reals;
            for (int ticket = 0; ticket < year.tickets(); ticket++) {
                if (year.isReal(ticket)) {
                    if (ahead == 0) {
                        return holderOf(ticket);
                    }
                    ahead--;
                }
            }
            return NOT;
        }
    }

    /** AN EVE read from a ROW, to be gone through in THOUGHT. */
    private static final class Eve {
        private static final int GOES_WELL = 6;

        private final Year year;
        private final Thought thought;
        private final int[] slippings;
        private int size;
        private int wells;
        private int leftOut;
        private long above;
        private long below;

        Eve(Year year, Thought thought) {
            this.year = year;
            this.thought = thought;
            slippings = new int[MOST_SLIPPINGS];
        }

        void begin(Shelves shelves, int shelf) {
            thought.begin();
            int most = Math.min(MOST_SLIPPINGS, shelves.sizeOf(shelf));
            size = 0;
            for (int k = 0; k < most; k++) {
                int tp = (int) shelves.get(shelf, k);
                if (!year.isSlipping(tp)) {
                    return;
                }
                slippings[k] = tp;
                size = k + 1;
            }
        }

        int size() {
            return size;
        }

        int ticketAt(int k) {
            return k >= 0 && k < size ? slippings[k] >> 3 : NOT;
        }

        int toAt(int k) {
            return k >= 0 && k < size ? slippings[k] & 7 : NOT;
        }

        int wells() {
            return wells;
        }

        int leftOut() {
            return leftOut;
        }

        long above() {
            return above;
        }

        long below() {
            return below;
        }

        void goByWell(int n) {
            wells = 0;
            leftOut = 0;
            for (int k = 0; k < n && k < size; k++) {
                if (!thought.canSlip(ticketAt(k), toAt(k))) {
                    leftOut |= 1 << k;
                } else if (thought.oddsOf(ticketAt(k), toAt(k)) >= GOES_WELL) {
                    wells++;
                    thought.give(ticketAt(k), toAt(k));
                }
            }
        }

        /** How likely just those of the set go well. */
        void weighSet(int set) {
            boolean canBe = set >>> size == 0;
            above = 1;
            below = 1;
            for (int k = 0; k < size; k++) {
                boolean well = (set >> k & 1) == 1;
                if (thought.canSlip(ticketAt(k), toAt(k))) {
                    weighStep(k, well);
                } else if (well) {
                    canBe = false;
                }
            }
            if (!canBe) {
                above = 0;
            }
        }

        void weighAllThatCan() {
            above = 1;
            below = 1;
            for (int k = 0; k < size; k++) {
                if (thought.canSlip(ticketAt(k), toAt(k))) {
                    weighStep(k, true);
                }
            }
        }

        private void weighStep(int k, boolean well) {
            int odds = thought.oddsOf(ticketAt(k), toAt(k));
            above *= well ? odds : 12 - odds;
            below *= 12;
            if (well) {
                thought.give(ticketAt(k), toAt(k));
            }
        }
    }

    /** BEHIND: all ways of an EVE that end with the HOLDERS told. */
    private static final class Ways {
        private static final int ANY = -1, UNKNOWN = -1;

        private final Year year;
        private final Thought thought;
        private final Eve evening;
        private final int[] told;
        /** Odds by SLIPPING, holder and how many the other one has: the ways ask for the same ones over and over. */
        private final int[] known;
        private boolean weighs;
        private int howMany;
        private int fewest;
        private int fewestBits;
        private int certain;
        private long mostWeight;
        private int likeliestBits;

        Ways(Year year, Thought thought, Eve evening) {
            this.year = year;
            this.thought = thought;
            this.evening = evening;
            told = new int[MOST_TICKETS];
            known = new int[MOST_SLIPPINGS * MOST_PEOPLE * MOST_TICKETS];
        }

        void goThrough(Shelves shelves, int shelf, boolean byOdds) {
            for (int ticket = 0; ticket < MOST_TICKETS; ticket++) {
                told[ticket] = ticket < shelves.sizeOf(shelf) ? (int) shelves.get(shelf, ticket) : ANY;
            }
            for (int place = 0; place < known.length && byOdds; place++) {
                known[place] = UNKNOWN;
            }
            weighs = byOdds;
            howMany = 0;
            fewest = NOT;
            fewestBits = NOT;
            certain = MOST_BITS;
            mostWeight = 0;
            likeliestBits = NOT;
            spread(this, 0, 0, 1);
        }

        /** Takes the k-th SLIPPING both ways; a weight counts twelfths of twelfths, those left out too. */
        private static void spread(Ways ways, int k, int bits, long weight) {
            if (k >= ways.evening.size()) {
                ways.arrive(bits, weight);
                return;
            }
            Thought thought = ways.thought;
            int ticket = ways.evening.ticketAt(k);
            int to = ways.evening.toAt(k);
            if (!thought.canSlip(ticket, to)) {
                spread(ways, k + 1, bits, 12 * weight);
                return;
            }
            int odds = ways.weighs ? ways.oddsAt(k, ticket, to) : 0;
            int from = thought.holderOf(ticket);
            spread(ways, k + 1, bits, (12 - odds) * weight);
            thought.give(ticket, to);
            spread(ways, k + 1, bits | 1 << k, odds * weight);
            thought.give(ticket, from);
        }

        private int oddsAt(int k, int ticket, int to) {
            int from = thought.holderOf(ticket);
            int has = thought.heldBy(to);
            int place = (k * MOST_PEOPLE + from) * MOST_TICKETS + has;
            if (place < 0 || place >= known.length) {
                return 0;
            }
            if (known[place] == UNKNOWN) {
                known[place] = thought.oddsBy(from, to, has, year.get(FOLDS, ticket), year.hourNow());
            }
            return known[place];
        }

        private void arrive(int bits, long weight) {
            if (!isAsTold()) {
                return;
            }
            int size = Integer.bitCount(bits);
            if (howMany == 0 || size < fewest || size == fewest && bits < fewestBits) {
                fewest = size;
                fewestBits = bits;
            }
            if (weight > mostWeight || weight > 0 && weight == mostWeight && bits < likeliestBits) {
                mostWeight = weight;
                likeliestBits = bits;
            }
            howMany++;
            certain &= bits;
        }

        private boolean isAsTold() {
            for (int ticket = 0; ticket < year.tickets() && ticket < MOST_TICKETS; ticket++) {
                if (told[ticket] != ANY && told[ticket] != thought.holderOf(ticket)) {
                    return false;
                }
            }
            return true;
        }

        int howMany() {
            return howMany;
        }

        int fewest() {
            return fewest;
        }

        int fewestBits() {
            return fewestBits;
        }

        int certain() {
            return howMany == 0 ? 0 : certain;
        }

        int likeliestBits() {
            return likeliestBits;
        }
    }

    /** RID: TICKETS with like FOLDS are alike, so that only their numbers are thought through. */
    private static final class Rid {
        static final int MOST_HOURS = 3;
        /** Sorts of TICKETS that can be slipped: by FOLDS 0 .. 3. */
        private static final int SORTS = 4;

        private final Year year;
        private final Thought thought;
        private final int[] left;
        private final int[] least;
        private final int[] gained;
        private final int[] odds;
        private int one;
        private int hours;
        private int reals;
        private int freeNow;

        Rid(Year year, Thought thought) {
            this.year = year;
            this.thought = thought;
            left = new int[SORTS];
            least = new int[SORTS];
            gained = new int[MOST_PEOPLE];
            odds = new int[MOST_HOURS * MOST_PEOPLE * MOST_HOURS * SORTS];
        }

        void begin(int who, int howLong) {
            thought.begin();
            one = who;
            hours = howLong;
            reals = thought.reals();
            freeNow = reals - thought.realsOf(who);
            for (int to = 0; to < MOST_PEOPLE; to++) {
                gained[to] = 0;
            }
            sortTickets();
            for (int hour = 0; hour < hours; hour++) {
                workOutHour(hour);
            }
        }

        private void sortTickets() {
            for (int sort = 0; sort < SORTS; sort++) {
                left[sort] = 0;
                least[sort] = NOT;
            }
            for (int ticket = year.tickets() - 1; ticket >= 0; ticket--) {
                int sort = year.get(FOLDS, ticket);
                if (sort < SORTS && year.isReal(ticket) && thought.holderOf(ticket) == one) {
                    left[sort]++;
                    least[sort] = ticket;
                }
            }
        }

        /** Odds in an hour, by how many TICKETS have come to each by then. */
        private void workOutHour(int hour) {
            int hourThen = Math.min(LAST_HOUR, year.hourNow() + hour);
            for (int to = 0; to < year.people(); to++) {
                int has = thought.heldBy(to);
                for (int came = 0; came <= hour; came++) {
                    for (int sort = 0; sort < SORTS; sort++) {
                        int place = placeOf(hour, to, came, sort);
                        if (place < odds.length && left[sort] > 0) {
                            odds[place] = thought.oddsBy(one, to, has + came, sort, hourThen);
                        }
                    }
                }
            }
        }

        private static int placeOf(int hour, int to, int came, int sort) {
            return ((hour * MOST_PEOPLE + to) * MOST_HOURS + came) * SORTS + sort;
        }

        private int oddsThen(int hour, int sort, int to) {
            int place = placeOf(hour, to, gained[to], sort);
            return left[sort] > 0 && place >= 0 && place < odds.length ? odds[place] : 0;
        }

        /** The fraction's upper part; the lower is freeAtMost(). */
        int freeAtBest() {
            return reals == 0 ? 1 : best(this, 0, 0);
        }

        int freeAtMost() {
            int most = Math.max(1, reals);
            for (int hour = 0; hour < hours && reals > 0; hour++) {
                most *= 12;
            }
            return most;
        }

        /** The best from an hour on, times 12 for each hour left, with so many gone. */
        private static int best(Rid rid, int hour, int gone) {
            if (hour >= rid.hours || hour >= MOST_HOURS) {
                return rid.freeNow + gone;
            }
            int stay = best(rid, hour + 1, gone);
            int most = 12 * stay;
            for (int sort = 0; sort < SORTS; sort++) {
                for (int to = 0; to < rid.year.people(); to++) {
                    most = Math.max(most, tried(rid, hour, gone, sort, to, stay));
                }
            }
            return most;
        }

        /** What a SLIPPING in that hour is worth, where all staying is worth so much. */
        private static int tried(Rid rid, int hour, int gone, int sort, int to, int stay) {
            int odds = rid.oddsThen(hour, sort, to);
            if (odds == 0) {
                return 12 * stay;
            }
            rid.left[sort]--;
            rid.gained[to]++;
            int went = best(rid, hour + 1, gone + 1);
            rid.left[sort]++;
            rid.gained[to]--;
            return odds * went + (12 - odds) * stay;
        }

        int firstSlipping() {
            if (hours == 0) {
                return NOT;
            }
            int stay = best(this, 1, 0);
            int most = 12 * stay;
            int firstOne = NOT;
            for (int sort = 0; sort < SORTS; sort++) {
                for (int to = 0; to < year.people(); to++) {
                    int worth = tried(this, 0, 0, sort, to, stay);
                    int tp = 8 * least[sort] + to;
                    if (worth > most || worth == most && firstOne >= 0 && tp < firstOne) {
                        most = worth;
                        firstOne = tp;
                    }
                }
            }
            return firstOne;
        }
    }

    /** What was done in deed, and AN IMAGE of it. */
    private static final class Deeds {
        static final int SLIPPINGS = 0, WELL = 1, FOLDED = 2, HOURS = 3, SORTS = 4;

        private final Year year;
        private final int[] notes;
        private final int[] keptNotes;
        private final int[] keptHolders;
        private final int[] keptFolds;
        private int keptTickets;
        private int keptHour;
        private boolean hasImage;

        Deeds(Year year) {
            this.year = year;
            notes = new int[SORTS];
            keptNotes = new int[SORTS];
            keptHolders = new int[MOST_TICKETS];
            keptFolds = new int[MOST_TICKETS];
        }

        void note(int sort) {
            if (sort >= 0 && sort < SORTS) {
                notes[sort]++;
            }
        }

        int noted(int sort) {
            return sort >= 0 && sort < SORTS ? notes[sort] : 0;
        }

        boolean hasImage() {
            return hasImage;
        }

        void keepImage() {
            hasImage = true;
            keptTickets = year.tickets();
            keptHour = year.hourNow();
            System.arraycopy(notes, 0, keptNotes, 0, SORTS);
            for (int ticket = 0; ticket < keptTickets && ticket < MOST_TICKETS; ticket++) {
                keptHolders[ticket] = year.get(HOLDER, ticket);
                keptFolds[ticket] = year.get(FOLDS, ticket);
            }
        }

        void layBack() {
            year.set(HOUR, 0, keptHour);
            System.arraycopy(keptNotes, 0, notes, 0, SORTS);
            for (int ticket = 0; ticket < keptTickets && ticket < MOST_TICKETS; ticket++) {
                year.set(HOLDER, ticket, keptHolders[ticket]);
                year.set(FOLDS, ticket, keptFolds[ticket]);
            }
        }
    }

    /** CHANGES by mend(), oldest first: those done, and behind them those undone. */
    private static final class Changes {
        private static final int MOST = 40;

        private final Year year;
        private final int[] what;
        private final int[] number;
        private final int[] before;
        private final int[] after;
        private int done;
        private int undone;

        Changes(Year year) {
            this.year = year;
            what = new int[MOST];
            number = new int[MOST];
            before = new int[MOST];
            after = new int[MOST];
        }

        int done() {
            return done;
        }

        int undone() {
            return undone;
        }

        void add(int newWhat, int newNumber, int was, int becomes) {
            if (done >= MOST) {
                forgetOldest();
            }
            what[done] = newWhat;
            number[done] = newNumber;
            before[done] = was;
            after[done] = becomes;
            done++;
            undone = 0;
        }

        private void forgetOldest() {
            System.arraycopy(what, 1, what, 0, MOST - 1);
            System.arraycopy(number, 1, number, 0, MOST - 1);
            System.arraycopy(before, 1, before, 0, MOST - 1);
            System.arraycopy(after, 1, after, 0, MOST - 1);
            done = MOST - 1;
        }

        void undoLatest() {
            if (done > 0) {
                done--;
                undone++;
                year.set(what[done], number[done], before[done]);
            }
        }

        void redoNext() {
            if (undone > 0 && done < MOST) {
                year.set(what[done], number[done], after[done]);
                done++;
                undone--;
            }
        }
    }

    /** BODIES, their ACTS and THE TRACE. */
    private static final class Hats {
        private static final int MOST_BODIES = 50, KINDS = 8, ACTS = 4, MOST_TRACED = 24, DEEPEST = 40;
        private static final int SLIPS = 0, FOLDS_IT = 1, PROVES = 2, TELLS = 3;
        /** The KIND above each KIND: a number below its own. */
        private static final int[] ABOVE = {-1, 0, 0, 2, 1, 3, 0, 6};
        /** The number of each KIND's own body of each ACT; 0: it has none. */
        private static final int[] OWN = {
            1, 10, 11, 2,
            20, 0, 0, 0,
            0, 30, 0, 0,
            0, 41, 40, 0,
            0, 0, 0, 50,
            0, 0, 60, 61,
            70, 0, 0, 0,
            81, 80, 0, 0
        };

        private final int[] kinds;
        private final int[] trace;
        private int bodies;
        private int ran;
        private int number;

        Hats() {
            kinds = new int[MOST_BODIES];
            trace = new int[MOST_TRACED];
        }

        static boolean isKind(int kind) {
            return kind >= 0 && kind < KINDS;
        }

        /** Whether a KIND is the other one or under it. */
        static boolean isUnder(int kind, int other) {
            int at = kind;
            for (int k = 0; k < KINDS && isKind(at); k++) {
                if (at == other) {
                    return true;
                }
                at = ABOVE[at];
            }
            return false;
        }

        boolean isBody(int body) {
            return body >= 0 && body < bodies;
        }

        int kindOf(int body) {
            return isBody(body) ? kinds[body] : -1;
        }

        int addBody(int kind) {
            if (bodies >= MOST_BODIES) {
                return FULL;
            }
            kinds[bodies] = kind;
            bodies++;
            return bodies - 1;
        }

        int bodies() {
            return bodies;
        }

        int ran() {
            return ran;
        }

        int traced() {
            return Math.min(ran, MOST_TRACED);
        }

        int traceAt(int i) {
            return i >= 0 && i < traced() ? trace[i] : 0;
        }

        int begin(int body, int act, int x) {
            ran = 0;
            if (!isBody(body) || act < 0 || act >= ACTS) {
                return 0;
            }
            number = body;
            return perform(this, kindOf(body), act, x, 0);
        }

        private void noteBody(int bodyNumber) {
            if (ran < MOST_TRACED) {
                trace[ran] = bodyNumber;
            }
            ran++;
        }

        /** The KIND, from one on upward, that has a body of that ACT; -1 without any. */
        private static int ownerOf(int from, int act) {
            int at = from;
            for (int k = 0; k < KINDS && isKind(at); k++) {
                if (OWN[at * ACTS + act] != 0) {
                    return at;
                }
                at = ABOVE[at];
            }
            return -1;
        }

        /** Runs the body of an ACT that a KIND has or gets from above. */
        private static int perform(Hats hats, int from, int act, int x, int depth) {
            int owner = ownerOf(from, act);
            if (owner < 0 || depth > DEEPEST) {
                return 0;
            }
            int bodyNumber = OWN[owner * ACTS + act];
            int own = hats.kindOf(hats.number);
            int up = ABOVE[owner];
            int deep = depth + 1;
            hats.noteBody(bodyNumber);
            switch (bodyNumber) {
                case 1: return x + hats.number;
                case 2: return perform(hats, own, FOLDS_IT, x, deep) - perform(hats, own, PROVES, 1, deep);
                case 10: return perform(hats, own, SLIPS, x, deep) * 2;
                case 11: return x ^ hats.number;
                case 20: return perform(hats, up, SLIPS, x, deep) + 3;
                case 30: return -perform(hats, up, FOLDS_IT, x, deep);
                case 40: return perform(hats, up, PROVES, x, deep) * 3;
                case 41: return perform(hats, up, FOLDS_IT, x + 1, deep);
                case 50: return perform(hats, up, TELLS, x, deep) ^ 5;
                case 60: return perform(hats, up, PROVES, x, deep) - perform(hats, own, SLIPS, 2, deep);
                case 61: return perform(hats, up, TELLS, x, deep) + 1;
                case 70: return perform(hats, up, SLIPS, x, deep) * 2;
                case 80: return perform(hats, up, FOLDS_IT, x, deep) + perform(hats, own, PROVES, 2, deep);
                case 81: return perform(hats, up, SLIPS, x, deep) - 1;
                default: return 0;
            }
        }
    }

    /** SHELVES: nothing, a BODY by its number, or a ROW. */
    private static final class Shelves {
        static final int LONGEST = 60;
        private static final int SHELVES = 6, NOTHING = -2, A_BODY = -1;
        private static final int BYTES = 0, SHORTS = 1, INTS = 2, LONGS = 3, BOOLEANS = 4;

        /** NOTHING, A_BODY or the sort of a ROW. */
        private final int[] sorts;
        private final int[] sizes;
        private final int[] bodies;
        private final long[][] elements;

        Shelves() {
            sorts = new int[SHELVES];
            sizes = new int[SHELVES];
            bodies = new int[SHELVES];
            elements = new long[SHELVES][LONGEST];
            for (int shelf = 0; shelf < SHELVES; shelf++) {
                sorts[shelf] = NOTHING;
            }
        }

        static boolean isSort(int sort) {
            return sort >= BYTES && sort <= BOOLEANS;
        }

        boolean isShelf(int shelf) {
            return shelf >= 0 && shelf < SHELVES;
        }

        boolean isEmpty(int shelf) {
            return isShelf(shelf) && sorts[shelf] == NOTHING;
        }

        boolean isRow(int shelf) {
            return isShelf(shelf) && isSort(sorts[shelf]);
        }

        int sizeOf(int shelf) {
            return isRow(shelf) ? sizes[shelf] : 0;
        }

        int bodyOn(int shelf) {
            return isShelf(shelf) && sorts[shelf] == A_BODY ? bodies[shelf] : -1;
        }

        int refusalOfRow(int shelf) {
            if (!isShelf(shelf)) {
                return BAD;
            }
            if (isEmpty(shelf)) {
                return NOTHING_THERE;
            }
            return isRow(shelf) ? 0 : OTHER_KIND;
        }

        int refusalOfBytes(int shelf) {
            int refusal = refusalOfRow(shelf);
            return refusal == 0 && sorts[shelf] != BYTES ? OTHER_KIND : refusal;
        }

        int refusalOfElement(int shelf, int i) {
            int refusal = refusalOfRow(shelf);
            return refusal == 0 && !hasPlaces(shelf, i, 1) ? NO_PLACE : refusal;
        }

        int refusalOfPair(int shelf, int other) {
            if (!isShelf(shelf) || !isShelf(other)) {
                return BAD;
            }
            if (isEmpty(shelf) || isEmpty(other)) {
                return NOTHING_THERE;
            }
            return isRow(shelf) && sorts[shelf] == sorts[other] ? 0 : OTHER_KIND;
        }

        /** Whether a ROW has n places from i on. */
        boolean hasPlaces(int shelf, int i, int n) {
            return i >= 0 && n >= 0 && (long) i + n <= sizeOf(shelf);
        }

        void clear(int shelf) {
            if (isShelf(shelf)) {
                sorts[shelf] = NOTHING;
            }
        }

        void holdBody(int shelf, int body) {
            if (isShelf(shelf)) {
                sorts[shelf] = A_BODY;
                bodies[shelf] = body;
            }
        }

        void holdRow(int shelf, int sort, int n) {
            if (isShelf(shelf) && isSort(sort) && n >= 0 && n <= LONGEST) {
                sorts[shelf] = sort;
                sizes[shelf] = n;
                for (int i = 0; i < n; i++) {
                    elements[shelf][i] = 0;
                }
            }
        }

        long get(int shelf, int i) {
            return isRow(shelf) && hasPlaces(shelf, i, 1) ? elements[shelf][i] : 0;
        }

        void set(int shelf, int i, long v) {
            if (isRow(shelf) && hasPlaces(shelf, i, 1)) {
                elements[shelf][i] = lowestBits(sorts[shelf], v);
            }
        }

        private static long lowestBits(int sort, long v) {
            switch (sort) {
                case BYTES: return (byte) v;
                case SHORTS: return (short) v;
                case INTS: return (int) v;
                case BOOLEANS: return v != 0 ? 1 : 0;
                default: return v;
            }
        }

        void copy(int shelf, int i, int other, int j, int n) {
            if (hasPlaces(shelf, i, n) && hasPlaces(other, j, n) && isRow(shelf) && isRow(other)) {
                System.arraycopy(elements[shelf], i, elements[other], j, n);
            }
        }
    }
}
