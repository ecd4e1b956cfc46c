/** A stall whose tickets win when they end in five: its goes, its things, and what comes of them. */
public final class EndsInFive {
    public static final int NONE = -1;

    private static final int BAD = -2;
    private static final int OTHER = -3;
    private static final int NOTHING = -4;
    private static final int STUCK = -5;
    private static final int FULL = -6;
    private static final int NUMBERS_OF_REFUSALS = 5;
    /** Added to a refusal where answers below 0 may be due. */
    private static final int FAR = -10000000;
    /** A fault of the tape is told as this less its place. */
    private static final int FAULT = -20;

    private static final int MOST_SLIPS = 60;
    private static final int MOST_THINGS = 8;
    private static final int MOST_BUYERS = 4;
    private static final int LEAST_RULE = 2;
    private static final int MOST_RULE = 10;
    private static final int MOST_PRICE = 99;
    private static final int MOST_FIVE = 495;
    private static final int MOST_PURSE = 9999;
    private static final int MOST_LIKING = 999;
    private static final int MOST_A = 9;
    private static final int MOST_BYTES = 250;
    private static final int MOST_SHELVES = 8;
    private static final int MOST_ELEMENTS = 40;
    private static final int MOST_MEAN = 8;
    private static final int MOST_CHAIN = 12;
    private static final int MOST_LESS = 1000;
    private static final int AT_ONCE = 5;
    private static final int CERTAIN = 1000000;

    private static final int THING = 0;
    private static final int BOTTLE = 1;
    private static final int TIN = 2;
    private static final int WHISKY = 3;
    private static final int HELD = 4;
    private static final int SUNK = 5;
    private static final int KINDS = 6;
    /** Under which kind each kind is. */
    private static final int[] UNDER = {-1, 0, 0, 1, 0, 4};

    private static final int BYTES = 0;
    private static final int SHORTS = 1;
    private static final int INTS = 2;
    private static final int BOOLEANS = 4;
    /** What a shelf holds is told as this and the number of the thing. */
    private static final int A_THING = 10;

    /** How many sets of things there may be. */
    private static final int SETS = 256;

    private final Stall now = new Stall();
    private final Stall kept = new Stall();
    /** The stall on which texts and books are tried before they come to pass. */
    private final Stall trial = new Stall();
    private final Thought thought = new Thought();
    private final Tape tape = new Tape();
    private final Shelf[] shelves = new Shelf[MOST_SHELVES];
    private final int[] refusals = new int[NUMBERS_OF_REFUSALS];
    private boolean isKept = false;

    public EndsInFive() {
        for (int s = 0; s < MOST_SHELVES; s++) {
            shelves[s] = new Shelf();
        }
    }

    // ---- shelves

    public int row(int s, int sort, int n) {
        if (!isShelf(s) || !isWithin(sort, BYTES, BOOLEANS) || !isWithin(n, 0, MOST_ELEMENTS)) {
            return refuse(BAD);
        }
        shelves[s].putRow(sort, n);
        return 1;
    }

    public int set(int s, int i, long v) {
        if (!isShelf(s)) {
            return refuse(BAD);
        }
        Shelf shelf = shelves[s];
        int lack = shelf.lackOfRow();
        if (lack != 0) {
            return refuse(lack);
        }
        if (!shelf.hasElement(i)) {
            return refuse(BAD);
        }
        shelf.elements[i] = shelf.lowestBits(v);
        return 1;
    }

    public int copy(int p, int q, int i, int j, int n) {
        if (!isShelf(p) || !isShelf(q)) {
            return refuse(BAD);
        }
        Shelf from = shelves[p];
        Shelf to = shelves[q];
        int lack = lackOfRows(from, to);
        if (lack != 0) {
            return refuse(lack);
        }
        if (!from.hasElements(i, n) || !to.hasElements(j, n)) {
            return refuse(BAD);
        }
        System.arraycopy(from.elements, i, to.elements, j, n);
        return n;
    }

    public long element(int s, int i) {
        if (!isShelf(s) || !shelves[s].hasElement(i)) {
            return 0;
        }
        return shelves[s].elements[i];
    }

    public int holds(int s) {
        return isShelf(s) ? shelves[s].content : NONE;
    }

    public int show(int s, int thing) {
        if (!isShelf(s) || thing != NONE && !now.isThing(thing)) {
            return refuse(BAD);
        }
        shelves[s].content = thing == NONE ? NONE : A_THING + thing;
        return 1;
    }

    public int says(int s, int kind) {
        if (!isShelf(s) || !isWithin(kind, THING, SUNK)) {
            return refuse(BAD);
        }
        Shelf shelf = shelves[s];
        if (shelf.content == NONE) {
            return refuse(NOTHING);
        }
        int thing = shelf.content - A_THING;
        if (!now.isThing(thing) || !isUnder(now.kinds[thing], kind)) {
            return refuse(OTHER);
        }
        return wordOf(thing, kind);
    }

    // ---- the stall

    public int slips(int n) {
        if (!isWithin(n, 1, MOST_SLIPS)) {
            return refuse(BAD);
        }
        if (now.things > 0) {
            return refuse(STUCK);
        }
        int before = now.slips;
        now.putSlips(n);
        return before;
    }

    public int rule(int v) {
        if (!isWithin(v, LEAST_RULE, MOST_RULE)) {
            return refuse(BAD);
        }
        if (now.things > 0) {
            return refuse(STUCK);
        }
        int before = now.rule;
        now.rule = v;
        return before;
    }

    public int price(int what, int v) {
        if (what == 0 && isWithin(v, 1, MOST_PRICE)) {
            int before = now.price;
            now.price = v;
            return before;
        }
        if (what == 1 && isWithin(v, 1, MOST_FIVE)) {
            int before = now.five;
            now.five = v;
            return before;
        }
        return refuse(BAD);
    }

    public int thing(int kind, int slip, int a) {
        if (!isWithin(kind, THING, SUNK) || !isWithin(a, 0, MOST_A) || !now.isSlip(slip) || !now.isWinner(slip)) {
            return refuse(BAD);
        }
        if (!now.isFreeForThing(slip)) {
            return refuse(STUCK);
        }
        if (now.things >= MOST_THINGS) {
            return refuse(FULL);
        }
        return now.addThing(kind, slip, a);
    }

    public int buyer(int purse) {
        if (!isWithin(purse, 0, MOST_PURSE)) {
            return refuse(BAD);
        }
        if (now.buyers >= MOST_BUYERS) {
            return refuse(FULL);
        }
        return now.addBuyer(purse);
    }

    public int likes(int buyer, int thing, int v) {
        if (!now.isBuyer(buyer) || !now.isThing(thing) || !isWithin(v, 0, MOST_LIKING)) {
            return refuse(BAD);
        }
        int before = now.liking(buyer, thing);
        now.putLiking(buyer, thing, v);
        return before;
    }

    public int purse(int buyer, int v) {
        if (!now.isBuyer(buyer) || !isWithin(v, 0, MOST_PURSE)) {
            return refuse(BAD);
        }
        int before = now.purses[buyer];
        now.purses[buyer] = v;
        return before;
    }

    public int feed(int letter) {
        if (!isWithin(letter, 0, 255)) {
            return refuse(BAD);
        }
        if (tape.size >= MOST_BYTES) {
            return refuse(FULL);
        }
        tape.bytes[tape.size] = letter;
        tape.size++;
        return tape.size;
    }

    public int wipe() {
        int before = tape.size;
        tape.size = 0;
        return before;
    }

    public int stall() {
        trial.become(now);
        int answer = tape.readInto(trial);
        tape.size = 0;
        if (answer < 0) {
            refuse(BAD);
            return answer;
        }
        now.become(trial);
        return answer;
    }

    // ---- what there is

    public int thingOf(int thing, int what) {
        if (!now.isThing(thing)) {
            return refuse(BAD);
        }
        switch (what) {
            case 0:
                return now.kinds[thing];
            case 1:
                return now.places[thing];
            case 2:
                return now.waits[thing];
            case 3:
                return now.ages[thing];
            case 4:
                return now.owners[thing];
            default:
                if (what < 10 || !now.isBuyer(what - 10)) {
                    return refuse(BAD);
                }
                return now.liking(what - 10, thing);
        }
    }

    public int buyerOf(int buyer, int what) {
        if (!now.isBuyer(buyer)) {
            return refuse(BAD);
        }
        switch (what) {
            case 0:
                return now.purses[buyer];
            case 1:
                return now.thingsOwnedBy(buyer);
            case 2:
                return now.likingOfAll(buyer, now.thingsOwnedBy(buyer));
            case 3:
                return now.likingOfAll(buyer, now.standing());
            default:
                return refuse(BAD);
        }
    }

    public int slipOf(int slip, int what) {
        if (!now.isSlip(slip)) {
            return refuse(BAD);
        }
        switch (what) {
            case 0:
                return asNumber(now.isIn(slip));
            case 1:
                return asNumber(now.isWinner(slip));
            case 2:
                return asNumber(now.canBeDrawn(slip));
            case 3:
                return now.thingOn(slip);
            default:
                return refuse(BAD);
        }
    }

    public int drawable() {
        return now.countDrawable();
    }

    public int wins(int slip) {
        if (!now.isSlip(slip)) {
            return refuse(BAD);
        }
        if (!now.canBeDrawn(slip)) {
            return refuse(STUCK);
        }
        return now.wonBySlip(slip);
    }

    // ---- what comes of it

    public int worth(int buyer) {
        return now.isBuyer(buyer) ? now.worthOfGo(buyer) : refuse(BAD);
    }

    public int plan(int buyer) {
        if (!now.isBuyer(buyer)) {
            return refuse(BAD);
        }
        thought.thinkOfAll(now, buyer);
        return thought.valueNow();
    }

    public int till(int buyer) {
        if (!now.isBuyer(buyer)) {
            return refuse(BAD);
        }
        thought.thinkOfAll(now, buyer);
        int standing = now.standing();
        int blanks = now.countIn() - Integer.bitCount(standing);
        for (int k = 0; k <= blanks; k++) {
            if (!thought.isMarked(k, standing)) {
                return k;
            }
        }
        return MOST_SLIPS;
    }

    public int atOnce(int buyer) {
        if (!now.isBuyer(buyer)) {
            return FAR + refuse(BAD);
        }
        return meanOfGoes(buyer, AT_ONCE) - 1000 * now.five;
    }

    public int mean(int buyer, int m) {
        if (!now.isBuyer(buyer) || !isWithin(m, 0, MOST_MEAN)) {
            return refuse(BAD);
        }
        return meanOfGoes(buyer, m);
    }

    public int all(int buyer) {
        if (!now.isBuyer(buyer)) {
            return FAR + refuse(BAD);
        }
        return now.likingOfAll(buyer, now.standing()) - now.price * now.countIn();
    }

    public int takings(int price) {
        return isWithin(price, 1, MOST_PRICE) ? now.takingsAt(price) : refuse(BAD);
    }

    public int bestPrice() {
        int best = 5;
        int most = now.takingsAt(best);
        for (int price = 10; price <= 95; price += 5) {
            int these = now.takingsAt(price);
            if (these > most) {
                most = these;
                best = price;
            }
        }
        return best;
    }

    public int full() {
        return now.quartersOf(now.countIn());
    }

    public int guess(int quarters, int what) {
        if (!isWithin(quarters, 0, 4) || !isWithin(what, 0, 1)) {
            return refuse(BAD);
        }
        int found = NONE;
        for (int count = 0; count <= now.slips; count++) {
            boolean fits = now.quartersOf(count) == quarters;
            if (fits && (found == NONE || what == 1)) {
                found = count;
            }
        }
        return found == NONE ? refuse(STUCK) : found;
    }

    public int suspect(int m, int k) {
        if (!isWithin(m, 1, MOST_SLIPS) || !isWithin(k, 0, m)) {
            return refuse(BAD);
        }
        return sureness(m, k);
    }

    public int sure(int m, int f) {
        if (!isWithin(m, 1, MOST_SLIPS) || !isWithin(f, 0, CERTAIN)) {
            return refuse(BAD);
        }
        int k = 0;
        while (k < m && sureness(m, k) < f) {
            k++;
        }
        return k;
    }

    public int left(int k) {
        int in = now.countIn();
        if (!isWithin(k, 0, in)) {
            return refuse(BAD);
        }
        int standing = now.standing();
        if ((standing & (now.thingsUnder(HELD) | now.thingsUnder(WHISKY))) != 0) {
            return refuse(STUCK);
        }
        return in == 0 ? 0 : 1000 * Integer.bitCount(standing) * (in - k) / in;
    }

    // ---- told books

    public int judge(int s, int n) {
        int lack = lackOfBook(s, n);
        return lack != 0 ? refuse(lack) : firstWrong(s, n, 0);
    }

    public int won(int s, int n) {
        int lack = lackOfBook(s, n);
        if (lack != 0) {
            return refuse(lack);
        }
        if (firstWrong(s, n, 0) != NONE) {
            return refuse(STUCK);
        }
        return now.standing() & ~trial.standing();
    }

    public int booked(int s, int n, int buyer) {
        if (!now.isBuyer(buyer)) {
            return refuse(BAD);
        }
        int lack = lackOfBook(s, n);
        if (lack != 0) {
            return refuse(lack);
        }
        int cost = n * now.price;
        if (now.purses[buyer] < cost || firstWrong(s, n, buyer) != NONE) {
            return refuse(STUCK);
        }
        int things = now.standing() & ~trial.standing();
        trial.pay(buyer, cost);
        now.become(trial);
        return things;
    }

    // ---- whose things can be

    public int chain(int thing) {
        if (!now.isThing(thing)) {
            return refuse(BAD);
        }
        return thought.fewestGoes(now, thing);
    }

    public int dearest(int buyer) {
        if (!now.isBuyer(buyer)) {
            return refuse(BAD);
        }
        int best = NONE;
        for (int t = 0; t < now.things; t++) {
            boolean isDearer = best == NONE || now.liking(buyer, t) > now.liking(buyer, best);
            if (now.stands(t) && isDearer) {
                best = t;
            }
        }
        return best;
    }

    public int fondest(int thing) {
        if (!now.isThing(thing)) {
            return refuse(BAD);
        }
        if (now.buyers == 0) {
            return refuse(STUCK);
        }
        int best = 0;
        for (int b = 1; b < now.buyers; b++) {
            if (now.liking(b, thing) > now.liking(best, thing)) {
                best = b;
            }
        }
        return best;
    }

    public int envy() {
        int pairs = 0;
        for (int one = 0; one < now.buyers; one++) {
            int own = now.likingOfAll(one, now.thingsOwnedBy(one));
            for (int other = 0; other < now.buyers; other++) {
                if (now.likingOfAll(one, now.thingsOwnedBy(other)) > own) {
                    pairs++;
                }
            }
        }
        return pairs;
    }

    public int poorest() {
        if (now.buyers == 0) {
            return refuse(STUCK);
        }
        int best = 0;
        for (int b = 1; b < now.buyers; b++) {
            if (now.purses[b] < now.purses[best]) {
                best = b;
            }
        }
        return best;
    }

    public int oldest() {
        if (now.things == 0) {
            return refuse(STUCK);
        }
        int best = 0;
        for (int t = 1; t < now.things; t++) {
            if (now.ages[t] > now.ages[best]) {
                best = t;
            }
        }
        return best;
    }

    // ---- in truth

    public int go(int buyer) {
        if (!now.isBuyer(buyer)) {
            return refuse(BAD);
        }
        if (now.purses[buyer] < now.price || now.countDrawable() == 0) {
            return refuse(STUCK);
        }
        now.pay(buyer, now.price);
        int slip = now.slipByDraw();
        now.draw(slip, buyer);
        return slip;
    }

    public int five(int buyer) {
        if (!now.isBuyer(buyer)) {
            return refuse(BAD);
        }
        if (now.purses[buyer] < now.five || now.countDrawable() == 0) {
            return refuse(STUCK);
        }
        int before = now.standing();
        now.pay(buyer, now.five);
        for (int k = 0; k < AT_ONCE && now.countDrawable() > 0; k++) {
            now.draw(now.slipByDraw(), buyer);
        }
        return before & ~now.standing();
    }

    public int plays(int buyer) {
        if (!now.isBuyer(buyer)) {
            return refuse(BAD);
        }
        // One thought serves all goes: each go leads to a state that it has weighed already.
        thought.thinkOfAll(now, buyer);
        int goes = 0;
        while (goes < MOST_SLIPS && now.purses[buyer] >= now.price && thought.isMarked(goes, now.standing())) {
            now.pay(buyer, now.price);
            now.draw(now.slipByDraw(), buyer);
            goes++;
        }
        return goes;
    }

    public int fete(int less) {
        return isWithin(less, 0, MOST_LESS) ? now.beginFete(less) : refuse(BAD);
    }

    public int seed(int v) {
        int before = now.seed;
        now.seed = v;
        return before;
    }

    public int image() {
        kept.become(now);
        isKept = true;
        return 1;
    }

    public int back() {
        if (!isKept) {
            return refuse(STUCK);
        }
        now.become(kept);
        for (int s = 0; s < MOST_SHELVES; s++) {
            if (shelves[s].content >= A_THING + now.things) {
                shelves[s].content = NONE;
            }
        }
        return 1;
    }

    public int status(int what) {
        switch (what) {
            case 0:
                return now.slips;
            case 1:
                return now.rule;
            case 2:
                return now.countIn();
            case 3:
                return now.goes;
            case 4:
                return now.things;
            case 5:
                return now.standing();
            case 6:
                return now.buyers;
            case 7:
                return now.taken;
            case 8:
                return tape.size;
            case 9:
                return now.seed;
            case 10:
                return countShelvesInUse();
            case 11:
                return now.countDrawable();
            default:
                return isWithin(what, 12, 16) ? refusals[what - 12] : NONE;
        }
    }

    // ---- helpers

    private int refuse(int number) {
        int place = BAD - number;
        if (isWithin(place, 0, NUMBERS_OF_REFUSALS - 1)) {
            refusals[place]++;
        }
        return number;
    }

    private static boolean isWithin(int v, int least, int most) {
        return v >= least && v <= most;
    }

    private static int asNumber(boolean v) {
        return v ? 1 : 0;
    }

    private static boolean isShelf(int s) {
        return isWithin(s, 0, MOST_SHELVES - 1);
    }

    /** Whether a kind is the wanted one or stands under it. */
    private static boolean isUnder(int kind, int wanted) {
        int at = kind;
        for (int i = 0; i < KINDS && at >= 0 && at < KINDS; i++) {
            if (at == wanted) {
                return true;
            }
            at = UNDER[at];
        }
        return false;
    }

    private static int lackOfRows(Shelf one, Shelf other) {
        int first = one.lackOfRow();
        int second = other.lackOfRow();
        if (first == OTHER || second == OTHER) {
            return OTHER;
        }
        if (first == NOTHING || second == NOTHING) {
            return NOTHING;
        }
        return one.content == other.content ? 0 : OTHER;
    }

    private int lackOfBook(int s, int n) {
        if (!isShelf(s) || !isWithin(n, 0, MOST_ELEMENTS)) {
            return BAD;
        }
        int lack = shelves[s].lackOfRow();
        if (lack != 0) {
            return lack;
        }
        return n > shelves[s].size ? BAD : 0;
    }

    /** Plays a book on the trial stall, which stays as the book leaves it if nothing is wrong. */
    private int firstWrong(int s, int n, int buyer) {
        trial.become(now);
        for (int i = 0; i < n; i++) {
            int slip = isShelf(s) ? shelves[s].slipAt(i) : 0;
            if (!trial.canBeDrawn(slip)) {
                return i;
            }
            trial.draw(slip, buyer);
        }
        return NONE;
    }

    private int wordOf(int thing, int kind) {
        switch (kind) {
            case BOTTLE:
                return asNumber(now.stands(thing));
            case TIN:
                return now.ages[thing];
            case WHISKY:
                return now.firstBrought();
            case HELD:
                return now.goesToWait(thing);
            case SUNK:
                return now.slipsToSink();
            default:
                return now.likingByAll(thing);
        }
    }

    private int meanOfGoes(int buyer, int m) {
        thought.thinkOfGoes(now, buyer, m);
        return thought.valueNow();
    }

    /** How sure it is that a slip wasn't in, if k of m were drawn and it was even before. */
    private static int sureness(int m, int k) {
        int divisor = 2 * m - k;
        return divisor <= 0 ? 0 : CERTAIN * m / divisor;
    }

    private int countShelvesInUse() {
        int count = 0;
        for (int s = 0; s < MOST_SHELVES; s++) {
            if (shelves[s].content != NONE) {
                count++;
            }
        }
        return count;
    }

    /** A shelf and the one row that it uses again for every row that is put there. */
    private static final class Shelf {
        /** As the document tells it: NONE, a row by its sort, or A_THING and the thing's number. */
        int content = NONE;
        int size = 0;
        final long[] elements = new long[MOST_ELEMENTS];

        void putRow(int sort, int n) {
            content = sort;
            size = n;
            for (int i = 0; i < MOST_ELEMENTS; i++) {
                elements[i] = 0;
            }
        }

        boolean holdsRow() {
            return isWithin(content, BYTES, BOOLEANS);
        }

        /** Why there is no row: OTHER or NOTHING; 0 if there is one. */
        int lackOfRow() {
            if (holdsRow()) {
                return 0;
            }
            return content == NONE ? NOTHING : OTHER;
        }

        boolean hasElement(int i) {
            return holdsRow() && isWithin(i, 0, size - 1);
        }

        boolean hasElements(int from, int n) {
            return from >= 0 && n >= 0 && (long) from + n <= size;
        }

        long lowestBits(long v) {
            switch (content) {
                case BYTES:
                    return (byte) v;
                case SHORTS:
                    return (short) v;
                case INTS:
                    return (int) v;
                case BOOLEANS:
                    return asNumber(v != 0);
                default:
                    return v;
            }
        }

        /** The element, or 0, which is no slip, where it is beyond all slips. */
        int slipAt(int i) {
            if (!hasElement(i)) {
                return 0;
            }
            long v = elements[i];
            return v >= 1 && v <= MOST_SLIPS ? (int) v : 0;
        }
    }

    /** All that an image keeps: slips, things, buyers, what was paid and the seed. */
    private static final class Stall {
        int slips = 0;
        int rule = 5;
        int price = 10;
        int five = 40;
        int goes = 0;
        int taken = 0;
        int seed = 1;
        /** Bit s: slip s is in the drum. A thing that stands has its slip in, always. */
        long in = 0;
        int things = 0;
        final int[] kinds = new int[MOST_THINGS];
        final int[] places = new int[MOST_THINGS];
        final int[] waits = new int[MOST_THINGS];
        final int[] ages = new int[MOST_THINGS];
        final int[] owners = new int[MOST_THINGS];
        int buyers = 0;
        final int[] purses = new int[MOST_BUYERS];
        final int[] likings = new int[MOST_BUYERS * MOST_THINGS];

        Stall() {
            putSlips(20);
        }

        void become(Stall other) {
            slips = other.slips;
            rule = other.rule;
            price = other.price;
            five = other.five;
            goes = other.goes;
            taken = other.taken;
            seed = other.seed;
            in = other.in;
            things = other.things;
            System.arraycopy(other.kinds, 0, kinds, 0, MOST_THINGS);
            System.arraycopy(other.places, 0, places, 0, MOST_THINGS);
            System.arraycopy(other.waits, 0, waits, 0, MOST_THINGS);
            System.arraycopy(other.ages, 0, ages, 0, MOST_THINGS);
            System.arraycopy(other.owners, 0, owners, 0, MOST_THINGS);
            buyers = other.buyers;
            System.arraycopy(other.purses, 0, purses, 0, MOST_BUYERS);
            System.arraycopy(other.likings, 0, likings, 0, MOST_BUYERS * MOST_THINGS);
        }

        boolean isSlip(int slip) {
            return slip >= 1 && slip <= slips;
        }

        boolean isThing(int thing) {
            return thing >= 0 && thing < things;
        }

        boolean isBuyer(int buyer) {
            return buyer >= 0 && buyer < buyers;
        }

        // -- slips

        void putSlips(int n) {
            slips = n;
            putAllIn();
        }

        void putAllIn() {
            in = ((1L << slips) - 1) << 1;
        }

        void takeOut(int slip) {
            in &= ~(1L << slip);
        }

        boolean isIn(int slip) {
            return (in & 1L << slip) != 0;
        }

        boolean isWinner(int slip) {
            return rule != 0 && slip % rule == 0;
        }

        int countIn() {
            return Long.bitCount(in);
        }

        /** The thing whose slip it is, whether it stands or not. */
        int thingOn(int slip) {
            for (int t = 0; t < things; t++) {
                if (places[t] == slip) {
                    return t;
                }
            }
            return NONE;
        }

        boolean isFreeForThing(int slip) {
            return isIn(slip) && thingOn(slip) == NONE;
        }

        /** How many quarters full the drum is with so many slips, rounded up. */
        int quartersOf(int count) {
            return slips <= 0 ? 0 : (4 * count + slips - 1) / slips;
        }

        // -- things

        int addThing(int kind, int slip, int a) {
            int thing = things;
            if (thing >= MOST_THINGS) {
                return NONE;
            }
            kinds[thing] = kind;
            places[thing] = slip;
            waits[thing] = a;
            ages[thing] = 0;
            owners[thing] = NONE;
            things++;
            return thing;
        }

        boolean stands(int thing) {
            return isThing(thing) && owners[thing] == NONE;
        }

        /** Bits of the things that a buyer has; of those that stand for NONE. */
        int thingsOwnedBy(int owner) {
            int found = 0;
            for (int t = 0; t < things; t++) {
                if (owners[t] == owner) {
                    found |= 1 << t;
                }
            }
            return found;
        }

        int standing() {
            return thingsOwnedBy(NONE);
        }

        /** Bits of the things of a kind or of one under it. */
        int thingsUnder(int kind) {
            int found = 0;
            for (int t = 0; t < things; t++) {
                if (isUnder(kinds[t], kind)) {
                    found |= 1 << t;
                }
            }
            return found;
        }

        /** The first thing that a whisky would bring: WHISKY is under BOTTLE, so it never brings itself. */
        int firstBrought() {
            int brought = standing() & ~thingsUnder(BOTTLE);
            for (int t = 0; t < things; t++) {
                if ((brought & 1 << t) != 0) {
                    return t;
                }
            }
            return NONE;
        }

        int goesToWait(int thing) {
            return isThing(thing) ? Math.max(0, 2 * waits[thing] - goes) : 0;
        }

        int slipsToSink() {
            return Math.max(0, countIn() - slips / 2);
        }

        /** Bits of the things that don't hold their slip back behind so many goes, with so many slips in. */
        int thingsReady(int goesThen, int inThen) {
            boolean isLow = 2 * inThen <= slips;
            int found = 0;
            for (int t = 0; t < things; t++) {
                boolean isWaiting = isUnder(kinds[t], HELD) && goesThen < 2 * waits[t];
                boolean isDeep = isUnder(kinds[t], SUNK) && !isLow;
                if (!isWaiting && !isDeep) {
                    found |= 1 << t;
                }
            }
            return found;
        }

        // -- goes

        boolean canBeDrawn(int slip) {
            if (!isSlip(slip) || !isIn(slip)) {
                return false;
            }
            int thing = thingOn(slip);
            return !stands(thing) || (thingsReady(goes, countIn()) & 1 << thing) != 0;
        }

        /** Only things that stand and aren't ready keep their slips from being drawn. */
        int countDrawable() {
            int in = countIn();
            return in - Integer.bitCount(standing() & ~thingsReady(goes, in));
        }

        int wonBySlip(int slip) {
            int thing = thingOn(slip);
            if (!stands(thing)) {
                return 0;
            }
            int bits = 1 << thing;
            int brought = kinds[thing] == WHISKY ? firstBrought() : NONE;
            return brought == NONE ? bits : bits | 1 << brought;
        }

        void draw(int slip, int buyer) {
            int bits = wonBySlip(slip);
            takeOut(slip);
            goes++;
            for (int t = 0; t < things; t++) {
                if ((bits & 1 << t) != 0) {
                    owners[t] = buyer;
                    ages[t] += kinds[t] == TIN ? 1 : 0;
                }
            }
        }

        int drawBelow(int n) {
            seed = seed * 1103515245 + 12345;
            return n <= 0 ? 0 : (seed >>> 16) % n;
        }

        int slipByDraw() {
            int ahead = drawBelow(countDrawable());
            for (int slip = 1; slip <= slips; slip++) {
                if (canBeDrawn(slip)) {
                    if (ahead == 0) {
                        return slip;
                    }
                    ahead--;
                }
            }
            return 0;
        }

        int beginFete(int less) {
            putAllIn();
            goes = 0;
            int count = 0;
            for (int t = 0; t < things; t++) {
                if (!stands(t) && liking(owners[t], t) < less) {
                    owners[t] = NONE;
                    ages[t]++;
                    count++;
                }
            }
            return count;
        }

        // -- buyers

        int addBuyer(int purse) {
            int buyer = buyers;
            if (buyer >= MOST_BUYERS) {
                return NONE;
            }
            purses[buyer] = purse;
            buyers++;
            return buyer;
        }

        void pay(int buyer, int cost) {
            if (isBuyer(buyer)) {
                purses[buyer] -= cost;
                taken += cost;
            }
        }

        int liking(int buyer, int thing) {
            return isBuyer(buyer) && isThing(thing) ? likings[buyer * MOST_THINGS + thing] : 0;
        }

        void putLiking(int buyer, int thing, int v) {
            if (isBuyer(buyer) && isThing(thing)) {
                likings[buyer * MOST_THINGS + thing] = v;
            }
        }

        int likingOfAll(int buyer, int bits) {
            int sum = 0;
            for (int t = 0; t < things; t++) {
                if ((bits & 1 << t) != 0) {
                    sum += liking(buyer, t);
                }
            }
            return sum;
        }

        int likingByAll(int thing) {
            int sum = 0;
            for (int b = 0; b < buyers; b++) {
                sum += liking(b, thing);
            }
            return sum;
        }

        int worthOfGo(int buyer) {
            int count = countDrawable();
            if (count <= 0) {
                return 0;
            }
            int ready = standing() & thingsReady(goes, countIn());
            int sum = 0;
            for (int t = 0; t < things; t++) {
                if ((ready & 1 << t) != 0) {
                    sum += likingOfAll(buyer, wonBySlip(places[t]));
                }
            }
            return 1000 * sum / count;
        }

        int takingsAt(int price) {
            if (price <= 0) {
                return 0;
            }
            int most = countIn();
            int bought = 0;
            for (int b = 0; b < buyers; b++) {
                if (worthOfGo(b) >= 1000 * price) {
                    bought += Math.min(purses[b] / price, most - bought);
                }
            }
            return bought * price;
        }
    }

    /**
     * What comes of a stall in thought. A state is told by how many goes there were from now on and by
     * which things stand: as every go takes one slip, the blanks in the drum follow from these.
     * A whole number for each state would be most of what an object takes: all but one layer keep a bit.
     */
    private static final class Thought {
        private static final int BITS = 32;
        /** What the states of one layer, behind as many goes, are worth: by things. */
        final int[] values = new int[SETS];
        /** A bit for each state, by goes, and by things: its value is above 0, or it can come about. */
        final int[] marks = new int[(MOST_SLIPS + 1) * SETS / BITS];
        /** 1000 times how much the buyer likes each set of things. */
        final int[] joys = new int[SETS];
        int things = 0;
        int standing = 0;
        int whiskies = 0;
        int bottles = 0;

        void thinkOfAll(Stall stall, int buyer) {
            fill(stall, buyer, stall.countIn(), stall.price);
        }

        /** A mean is a value for which nothing is paid. */
        void thinkOfGoes(Stall stall, int buyer, int m) {
            fill(stall, buyer, Math.min(m, stall.countIn()), 0);
        }

        /** The value of how the stall is, once it has been thought of. */
        int valueNow() {
            return isSet(standing) ? values[standing] : 0;
        }

        boolean isMarked(int goes, int set) {
            return hasState(goes, set) && (marks[(goes * SETS + set) / BITS] & 1 << set % BITS) != 0;
        }

        void mark(int goes, int set) {
            if (hasState(goes, set)) {
                marks[(goes * SETS + set) / BITS] |= 1 << set % BITS;
            }
        }

        static boolean hasState(int goes, int set) {
            return isWithin(goes, 0, MOST_SLIPS) && isSet(set);
        }

        static boolean isSet(int set) {
            return isWithin(set, 0, SETS - 1);
        }

        void lookAt(Stall stall) {
            things = stall.things;
            standing = stall.standing();
            whiskies = stall.thingsUnder(WHISKY);
            bottles = stall.thingsUnder(BOTTLE);
            for (int i = 0; i < values.length; i++) {
                values[i] = 0;
            }
            for (int i = 0; i < marks.length; i++) {
                marks[i] = 0;
            }
        }

        void fill(Stall stall, int buyer, int depth, int price) {
            lookAt(stall);
            weigh(stall, buyer);
            int in = stall.countIn();
            for (int k = depth - 1; k >= 0; k--) {
                fillLayer(k, in - k, stall.thingsReady(stall.goes + k, in - k), price);
            }
        }

        void weigh(Stall stall, int buyer) {
            for (int t = 0; t < MOST_THINGS; t++) {
                int first = 1 << t;
                int joy = 1000 * stall.liking(buyer, t);
                for (int set = 0; set < first; set++) {
                    joys[first + set] = joys[set] + joy;
                }
            }
        }

        /**
         * From the values of one go later to those behind k goes. A set's value rests on its own and on those
         * of lesser sets, one go later: so the greater come first.
         */
        void fillLayer(int k, int in, int ready, int price) {
            for (int set = Math.min(standing, SETS - 1); set >= 0; set--) {
                int blanks = in - Integer.bitCount(set);
                if ((set & ~standing) == 0 && blanks >= 0) {
                    values[set] = valueOf(set, set & ready, blanks, price);
                    if (values[set] > 0) {
                        mark(k, set);
                    }
                }
            }
        }

        int valueOf(int set, int can, int blanks, int price) {
            int count = blanks + Integer.bitCount(can);
            if (count <= 0 || !isSet(set)) {
                return 0;
            }
            long sum = (long) blanks * values[set];
            for (int t = 0; t < things; t++) {
                if ((can & 1 << t) != 0) {
                    int bits = wonWith(t, set);
                    sum += joys[bits] + values[set & ~bits];
                }
            }
            long value = sum / count - 1000L * price;
            return value > 0 ? (int) value : 0;
        }

        /** What is won by the slip of a thing of a set, all of which stand. */
        int wonWith(int thing, int set) {
            int bit = 1 << thing;
            if ((whiskies & bit) == 0) {
                return bit;
            }
            int brought = set & ~bottles;
            return bit | brought & -brought;
        }

        /** The fewest goes behind which a thing can be won; marks what can come about. */
        int fewestGoes(Stall stall, int thing) {
            lookAt(stall);
            if (!stall.stands(thing)) {
                return 0;
            }
            mark(0, standing);
            int in = stall.countIn();
            for (int k = 0; k < MOST_CHAIN; k++) {
                if (markNext(k, in - k, stall.thingsReady(stall.goes + k, in - k), 1 << thing)) {
                    return k + 1;
                }
            }
            return NONE;
        }

        /** Marks what can come about behind one go more; whether the wanted thing can be won by it. */
        boolean markNext(int k, int in, int ready, int wanted) {
            for (int set = 0; set <= standing; set++) {
                if (!isMarked(k, set)) {
                    continue;
                }
                if (in > Integer.bitCount(set)) {
                    mark(k + 1, set);
                }
                for (int t = 0; t < things; t++) {
                    if ((set & ready & 1 << t) != 0) {
                        int bits = wonWith(t, set);
                        if ((bits & wanted) != 0) {
                            return true;
                        }
                        mark(k + 1, set & ~bits);
                    }
                }
            }
            return false;
        }
    }

    /** The tape, and how a stall is read from it, token by token. */
    private static final class Tape {
        private static final int END = 0;
        private static final int WORD = 1;
        private static final int NUMBER = 2;
        private static final int SIGN = 3;
        private static final int BLANK = 4;
        private static final int STRANGE = 5;
        private static final int MOST_DIGITS = 4;

        final int[] bytes = new int[MOST_BYTES];
        int size = 0;
        /** The token that is looked at: what it is, where it starts, where the next may start. */
        int token = END;
        int start = 0;
        int end = 0;
        /** The number that the token is; NONE if it is none or is too long. */
        int value = NONE;

        /** How many statements there are, or the fault; the stall is of no use behind a fault. */
        int readInto(Stall stall) {
            end = 0;
            step();
            int count = 0;
            for (int i = 0; i <= MOST_BYTES; i++) {
                if (!readStatement(stall)) {
                    return FAULT - start;
                }
                count++;
                if (token == END) {
                    return count;
                }
                if (token != SIGN) {
                    return FAULT - start;
                }
                step();
            }
            return FAULT - start;
        }

        /** Reads one statement and steps behind it; if false, the token that is looked at is the fault. */
        boolean readStatement(Stall stall) {
            if (isWord("slips")) {
                return readSlips(stall);
            }
            if (isWord("rule")) {
                return readRule(stall);
            }
            if (isWord("price")) {
                return readPrices(stall);
            }
            if (isWord("thing")) {
                return readThing(stall);
            }
            if (isWord("buyer")) {
                return readBuyer(stall);
            }
            if (isWord("likes")) {
                return readLiking(stall);
            }
            return isWord("out") && readOut(stall);
        }

        boolean readSlips(Stall stall) {
            if (stall.things > 0 || !readNumber(1, MOST_SLIPS)) {
                return false;
            }
            stall.putSlips(value);
            step();
            return true;
        }

        boolean readRule(Stall stall) {
            if (stall.things > 0 || !readNumber(LEAST_RULE, MOST_RULE)) {
                return false;
            }
            stall.rule = value;
            step();
            return true;
        }

        boolean readPrices(Stall stall) {
            if (!readNumber(1, MOST_PRICE)) {
                return false;
            }
            stall.price = value;
            step();
            if (isWord("five")) {
                if (!readNumber(1, MOST_FIVE)) {
                    return false;
                }
                stall.five = value;
                step();
            }
            return true;
        }

        boolean readThing(Stall stall) {
            if (stall.things >= MOST_THINGS || !readNumber(THING, SUNK)) {
                return false;
            }
            int kind = value;
            if (!readNumber(1, stall.slips) || !stall.isWinner(value) || !stall.isFreeForThing(value)) {
                return false;
            }
            int slip = value;
            if (!readNumber(0, MOST_A)) {
                return false;
            }
            stall.addThing(kind, slip, value);
            step();
            return true;
        }

        boolean readBuyer(Stall stall) {
            if (stall.buyers >= MOST_BUYERS || !readNumber(0, MOST_PURSE)) {
                return false;
            }
            stall.addBuyer(value);
            step();
            return true;
        }

        boolean readLiking(Stall stall) {
            if (!readNumber(0, stall.buyers - 1)) {
                return false;
            }
            int buyer = value;
            if (!readNumber(0, stall.things - 1)) {
                return false;
            }
            int thing = value;
            if (!readNumber(0, MOST_LIKING)) {
                return false;
            }
            stall.putLiking(buyer, thing, value);
            step();
            return true;
        }

        boolean readOut(Stall stall) {
            if (!readNumber(1, stall.slips) || !stall.isIn(value) || stall.stands(stall.thingOn(value))) {
                return false;
            }
            stall.takeOut(value);
            step();
            return true;
        }

        /** Steps to a number between the two; if false, the token that is looked at is none. */
        boolean readNumber(int least, int most) {
            step();
            return token == NUMBER && value != NONE && isWithin(value, least, most);
        }

        boolean isWord(String word) {
            int length = word.length();
            if (token != WORD || end - start != length) {
                return false;
            }
            for (int i = 0; i < length; i++) {
                if (bytes[start + i] != word.charAt(i)) {
                    return false;
                }
            }
            return true;
        }

        /** Looks at the next token, as long as it can be. */
        void step() {
            start = end;
            while (start < size && sortOf(bytes[start]) == BLANK) {
                start++;
            }
            end = Math.min(start + 1, size);
            token = start < size ? sortOf(bytes[start]) : END;
            boolean canBeLonger = token == WORD || token == NUMBER;
            while (canBeLonger && end < size && sortOf(bytes[end]) == token) {
                end++;
            }
            value = token == NUMBER && end - start <= MOST_DIGITS ? numberOf() : NONE;
        }

        int numberOf() {
            int number = 0;
            for (int i = start; i < end; i++) {
                number = 10 * number + bytes[i] - '0';
            }
            return number;
        }

        static int sortOf(int letter) {
            if (letter >= 'a' && letter <= 'z') {
                return WORD;
            }
            if (letter >= '0' && letter <= '9') {
                return NUMBER;
            }
            if (letter == ';') {
                return SIGN;
            }
            return letter == ' ' ? BLANK : STRANGE;
        }
    }
}
