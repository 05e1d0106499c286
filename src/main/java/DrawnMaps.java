/**
 * Triples of permutations as drawn maps: darts turned round black points, round white points and
 * round faces. What each call answers and changes is told in the document (../shared/DOC.md).
 *
 * <p>All rows are made with the object and used again: no call makes anything new.
 */
public final class DrawnMaps {
    /** There is none. */
    public static final int NONE = -1;

    private static final int MISSING = -2;
    private static final int FULL = -3;
    private static final int FAULT = -1000;
    private static final int NO_VALUE = -1000000;

    private static final int MOST_DARTS = 7;
    private static final int MOST_PERMUTATIONS = 5040;
    private static final int MOST_BYTES = 120;
    private static final int MOST_READ = 60;
    private static final int MOST_PIECES = 12;
    private static final int MOST_STATES = 8;
    private static final int MOST_EXPONENT = 12;
    private static final int MOST_GENUS = 3;
    private static final int OPERATIONS = 4;

    private final int[] tape = new int[MOST_BYTES];
    private int bytes;
    private int lot;
    private final State now = new State();
    private final State[] kept = new State[MOST_STATES];
    private int states;
    private final Relabels relabels = new Relabels();
    private final Chain chain = new Chain();
    private final Group group = new Group();
    private final Blocks blocks = new Blocks();
    private final Census census = new Census();
    private final Family relatives = new Family();
    private final Reader reader = new Reader();

    /** n is 3; all darts stay. */
    public DrawnMaps() {
        for (int i = 0; i < MOST_STATES; i++) {
            kept[i] = new State();
        }
    }

    // ---- told

    /** Twenty bytes come behind the tape. */
    public int feed(int a, int b, int c, int d, int e) {
        if (bytes + 20 > MOST_BYTES) {
            return NONE;
        }
        append(a);
        append(b);
        append(c);
        append(d);
        append(e);
        return bytes;
    }

    private void append(int four) {
        for (int shift = 24; shift >= 0; shift -= 8) {
            if (bytes < MOST_BYTES) {
                tape[bytes] = four >> shift & 255;
                bytes++;
            }
        }
    }

    /** Another n; all darts stay. */
    public int degree(int n) {
        if (n < 1 || n > MOST_DARTS) {
            return NONE;
        }
        int before = now.n;
        now.n = n;
        now.s = Perm.STAY;
        now.a = Perm.STAY;
        return before;
    }

    /** s or a by its code. */
    public int set(int which, int code) {
        int p = Perm.read(code, now.n);
        if (!colour(which) || p == 0) {
            return NONE;
        }
        int before = Perm.digits(turn(which), now.n);
        put(which, p);
        return before;
    }

    private static boolean colour(int which) {
        return which == 0 || which == 1;
    }

    private void put(int which, int p) {
        if (which == 0) {
            now.s = p;
        } else {
            now.a = p;
        }
    }

    /** s or a by the tape's first k bytes. */
    public int text(int which, int k) {
        if (!colour(which) || !readable(k)) {
            return NONE;
        }
        bytes = 0;
        reader.begin(now.n);
        for (int i = 0; i < k && i < MOST_BYTES; i++) {
            int fault = reader.fault(tape[i]);
            if (fault != 0) {
                return FAULT * fault - i;
            }
        }
        if (!reader.complete()) {
            return FAULT - k;
        }
        put(which, reader.permutation());
        return Perm.digits(turn(which), now.n);
    }

    private boolean readable(int k) {
        return k >= 1 && k <= MOST_READ && k <= bytes;
    }

    /** s and a by draws of a seed. */
    public int drawn(int seed) {
        lot = seed & 0xFFFF;
        now.s = shuffled(now.n);
        now.a = shuffled(now.n);
        return Perm.digits(now.s, now.n);
    }

    private int shuffled(int n) {
        int p = Perm.STAY;
        for (int x = n; x >= 2; x--) {
            lot = 25173 * lot + 13849 & 0xFFFF;
            p = Perm.swapped(p, x, lot / 4 % x + 1);
        }
        return p;
    }

    /** An operation is done. */
    public int operate(int what) {
        if (what < 0 || what >= OPERATIONS) {
            return NONE;
        }
        int black = Perm.black(what, now.s, now.a);
        int white = Perm.white(what, now.s, now.a);
        now.s = black;
        now.a = white;
        return Perm.digits(now.s, now.n);
    }

    /** s and a become those of the least form. */
    public int tidy() {
        relabels.settle(now.n, now.s, now.a);
        now.s = relabels.leastS;
        now.a = relabels.leastA;
        return Perm.digits(now.s, now.n);
    }

    // ---- looked at

    /** Code of s, a, f. */
    public int code(int which) {
        int p = turn(which);
        return p == 0 ? NONE : Perm.digits(p, now.n);
    }

    /** s, a, f by its number; 0 (which is no permutation) for others. */
    private int turn(int which) {
        switch (which) {
            case 0:
                return now.s;
            case 1:
                return now.a;
            case 2:
                return Perm.faces(now.s, now.a);
            default:
                return 0;
        }
    }

    /** Type of s, a, f. */
    public int type(int which) {
        int p = turn(which);
        return p == 0 ? NONE : Perm.kind(p, now.n);
    }

    /** Of s, a, f: cycles, darts that stay, the order, whether it is odd. */
    public int cycles(int which, int what) {
        int p = turn(which);
        if (p == 0) {
            return NONE;
        }
        int all = Perm.darts(now.n);
        switch (what) {
            case 0:
                return Perm.rings(p, all);
            case 1:
                return Perm.resting(p, now.n);
            case 2:
                return Perm.order(p, now.n);
            case 3:
                return now.n - Perm.rings(p, all) & 1;
            default:
                return NONE;
        }
    }

    private boolean dartStands(int dart) {
        return dart >= 1 && dart <= now.n;
    }

    /** The i-th dart behind a dart. */
    public int along(int which, int dart, int i) {
        int p = turn(which);
        if (p == 0 || !dartStands(dart) || i < 0) {
            return NONE;
        }
        if (i >= Integer.bitCount(Perm.ring(p, dart))) {
            return MISSING;
        }
        return Perm.at(Perm.times(p, i), dart);
    }

    /** What there is, told in one number. */
    public int count(int what) {
        switch (what) {
            case 0:
                return now.n;
            case 1:
                return Perm.parts(now.s, now.a, now.n);
            case 2:
                return connected() ? Perm.genus(now.s, now.a, Perm.darts(now.n)) : MISSING;
            case 3:
                relabels.settle(now.n, now.s, now.a);
                return relabels.auts;
            case 4:
                return chain.order(now.n, now.s, now.a);
            case 5:
                return connected() ? blocks.systems(now.n, now.s, now.a) : 0;
            case 6:
                return connected() && blocks.systems(now.n, now.s, now.a) == 0 ? 1 : 0;
            case 7:
                return relabels.symmetries(now.n, now.s, now.a);
            case 8:
                return connected() ? siblings() : MISSING;
            case 9:
                return now.pieces;
            case 10:
                return bytes;
            case 11:
                return states;
            default:
                return NONE;
        }
    }

    private boolean connected() {
        return Perm.joined(now.s, now.a, now.n);
    }

    private int siblings() {
        int n = now.n;
        relabels.settle(n, now.s, now.a);
        int auts = relabels.auts;
        int order = chain.order(n, now.s, now.a);
        int third = Perm.kind(Perm.faces(now.s, now.a), n);
        census.list(relabels, n, Perm.kind(now.s, n), Perm.kind(now.a, n), third);
        int alike = 0;
        for (int i = 0; i < census.listed; i++) {
            // the order is dear, so it is asked last
            if (census.auts(i) == auts && chain.order(n, census.black, census.white(i)) == order) {
                alike++;
            }
        }
        return alike;
    }

    /** The part of a dart: its least dart, its darts, its genus. */
    public int part(int dart, int what) {
        if (!dartStands(dart)) {
            return NONE;
        }
        int reached = Perm.reach(now.s, now.a, dart);
        switch (what) {
            case 0:
                return Perm.lowest(reached);
            case 1:
                return Integer.bitCount(reached);
            case 2:
                return Perm.genus(now.s, now.a, reached);
            default:
                return NONE;
        }
    }

    /** Code of s, a, f of the least form. */
    public int canon(int which) {
        relabels.settle(now.n, now.s, now.a);
        switch (which) {
            case 0:
                return Perm.digits(relabels.leastS, now.n);
            case 1:
                return Perm.digits(relabels.leastA, now.n);
            case 2:
                return Perm.digits(Perm.faces(relabels.leastS, relabels.leastA), now.n);
            default:
                return NONE;
        }
    }

    /** A cycle's least dart, or how many it has. */
    public int point(int which, int i, int what) {
        int p = turn(which);
        if (p == 0 || i < 0 || what < 0 || what > 1) {
            return NONE;
        }
        int dart = Perm.nthLeast(p, now.n, i);
        if (dart == 0) {
            return MISSING;
        }
        return what == 0 ? dart : Integer.bitCount(Perm.ring(p, dart));
    }

    /** Whether a map is in one class with this one. */
    public int same(int s, int a) {
        int black = Perm.read(s, now.n);
        int white = Perm.read(a, now.n);
        if (black == 0 || white == 0) {
            return NONE;
        }
        return relabels.first(now.n, now.s, now.a, black, white) != 0 ? 1 : 0;
    }

    /** The least relabelling that makes another map of this one. */
    public int label(int s, int a) {
        int black = Perm.read(s, now.n);
        int white = Perm.read(a, now.n);
        if (black == 0 || white == 0) {
            return NONE;
        }
        int r = relabels.first(now.n, now.s, now.a, black, white);
        return r == 0 ? MISSING : Perm.digits(r, now.n);
    }

    // ---- the group

    /** How many of the group have a type. */
    public int ofType(int type) {
        if (!kindStands(type)) {
            return NONE;
        }
        group.fill(now.n, now.s, now.a);
        return group.ofKind(type);
    }

    private boolean kindStands(int t) {
        return Kind.index(t, now.n) >= 0;
    }

    /** The group's centre, or how many have an order. */
    public int elements(int what) {
        if (what < 0) {
            return NONE;
        }
        group.fill(now.n, now.s, now.a);
        return what == 0 ? group.centre() : group.ofOrder(what);
    }

    /** The fewest turns that give a permutation. */
    public int length(int code) {
        int p = Perm.read(code, now.n);
        if (p == 0) {
            return NONE;
        }
        group.fill(now.n, now.s, now.a);
        int turns = group.turnsTo(p);
        return turns < 0 ? MISSING : turns;
    }

    /** A block system: how many in a set, the set with dart 1, the smaller map. */
    public int block(int i, int what) {
        if (i < 0 || what < 0 || what > 3) {
            return NONE;
        }
        if (!connected() || !blocks.find(now.n, now.s, now.a, i)) {
            return MISSING;
        }
        switch (what) {
            case 0:
                return Integer.bitCount(blocks.withDartOne());
            case 1:
                return blocks.withDartOne();
            case 2:
                return blocks.smaller(now.s);
            default:
                return blocks.smaller(now.a);
        }
    }

    // ---- triples

    /** The types of n. */
    public int kinds(int i) {
        if (i < NONE) {
            return NONE;
        }
        int many = Kind.many(now.n);
        if (i == NONE) {
            return many;
        }
        return i >= many ? MISSING : Kind.nth(now.n, i);
    }

    /** How many permutations have a type. */
    public int size(int type) {
        return kindStands(type) ? Kind.members(type, now.n) : NONE;
    }

    /** A character's value. */
    public int character(int p, int t) {
        return kindStands(p) && kindStands(t) ? Kind.value(p, t) : NO_VALUE;
    }

    /** How many maps have a passport. */
    public long triples(int t1, int t2, int t3, int what) {
        if (!kindStands(t1) || !kindStands(t2) || !kindStands(t3)) {
            return NONE;
        }
        switch (what) {
            case 0:
                census.tally(now.n, t1, t2);
                return (long) Kind.members(t1, now.n) * census.found(t3);
            case 1:
                return connectedMaps(t1, t2, t3);
            case 2:
                return Kind.byCharacters(t1, t2, t3, now.n);
            default:
                return NONE;
        }
    }

    private long connectedMaps(int t1, int t2, int t3) {
        census.tally(now.n, t1, t2);
        return (long) Kind.members(t1, now.n) * census.foundConnected(t3);
    }

    /** The classes of a passport. */
    public int classes(int t1, int t2, int t3, int i, int what) {
        if (!kindStands(t1) || !kindStands(t2) || !kindStands(t3)) {
            return NONE;
        }
        if (i < NONE || what < 0 || what > 4) {
            return NONE;
        }
        census.list(relabels, now.n, t1, t2, t3);
        if (i == NONE) {
            return census.listed;
        }
        return i >= census.listed ? MISSING : ofClass(census.black, census.white(i), i, what);
    }

    private int ofClass(int s, int a, int i, int what) {
        switch (what) {
            case 0:
                return Perm.digits(s, now.n);
            case 1:
                return Perm.digits(a, now.n);
            case 2:
                return census.auts(i);
            case 3:
                return chain.order(now.n, s, a);
            default:
                return relabels.symmetries(now.n, s, a);
        }
    }

    /** The sum over the classes of 1 through what leaves them as they are. */
    public long mass(int t1, int t2, int t3, int what) {
        if (!kindStands(t1) || !kindStands(t2) || !kindStands(t3) || what < 0 || what > 1) {
            return NONE;
        }
        // a class has n! through AUTS maps, so the sum is the connected maps through n!
        long top = connectedMaps(t1, t2, t3);
        long bottom = Kind.factorial(now.n);
        long common = common(top, bottom);
        if (common == 0) {
            return NONE;
        }
        return what == 0 ? top / common : bottom / common;
    }

    private static long common(long a, long b) {
        long big = a;
        long small = b;
        for (int i = 0; i < 100 && small != 0; i++) {
            long rest = big % small;
            big = small;
            small = rest;
        }
        return big;
    }

    /** Connected maps of two types and a genus. */
    public long genera(int t1, int t2, int genus) {
        if (!kindStands(t1) || !kindStands(t2) || genus < 0 || genus > MOST_GENUS) {
            return NONE;
        }
        census.tally(now.n, t1, t2);
        int third = now.n + 2 - 2 * genus - Kind.parts(t1) - Kind.parts(t2);
        long sum = 0;
        for (int i = 0; i < Kind.many(now.n); i++) {
            int t3 = Kind.nth(now.n, i);
            if (Kind.parts(t3) == third) {
                sum += census.foundConnected(t3);
            }
        }
        return sum * Kind.members(t1, now.n);
    }

    /** The third types that go with two. */
    public int thirds(int t1, int t2, int i) {
        if (!kindStands(t1) || !kindStands(t2) || i < NONE) {
            return NONE;
        }
        census.tally(now.n, t1, t2);
        int many = 0;
        for (int k = 0; k < Kind.many(now.n); k++) {
            int t3 = Kind.nth(now.n, k);
            if (census.found(t3) > 0) {
                if (many == i) {
                    return t3;
                }
                many++;
            }
        }
        return i == NONE ? many : MISSING;
    }

    /** The classes that come of this map by operations. */
    public int family(int i, int what) {
        if (i < NONE || what < 0 || what > 1) {
            return NONE;
        }
        relatives.gather(relabels, now.n, now.s, now.a);
        if (i == NONE) {
            return relatives.many;
        }
        if (i >= relatives.many) {
            return MISSING;
        }
        return Perm.digits(what == 0 ? relatives.black(i) : relatives.white(i), now.n);
    }

    // ---- walks

    /** Where a dart comes by a word. */
    public int walk(int dart, int k) {
        if (!dartStands(dart) || !readable(k)) {
            return NONE;
        }
        int p = spelt(k);
        return p < 0 ? p : Perm.at(p, dart);
    }

    /** The permutation by a word of the tape (which is empty then), or a fault below 0. */
    private int spelt(int k) {
        bytes = 0;
        int p = Perm.STAY;
        for (int i = 0; i < k && i < MOST_BYTES; i++) {
            int q = letter(tape[i]);
            if (q == 0) {
                return FAULT - i;
            }
            p = Perm.then(p, q);
        }
        return p;
    }

    private int letter(int sign) {
        switch (sign) {
            case 's':
                return now.s;
            case 'a':
                return now.a;
            case 'f':
                return turn(2);
            case 'S':
                return Perm.back(now.s);
            case 'A':
                return Perm.back(now.a);
            case 'F':
                return Perm.back(turn(2));
            default:
                return 0;
        }
    }

    /** The permutation by a word: its code, its type, its fewest turns. */
    public int made(int k, int what) {
        if (what < 0 || what > 2 || !readable(k)) {
            return NONE;
        }
        int p = spelt(k);
        if (p < 0) {
            return p;
        }
        if (what == 2) {
            group.fill(now.n, now.s, now.a);
            return group.turnsTo(p);
        }
        return what == 0 ? Perm.digits(p, now.n) : Perm.kind(p, now.n);
    }

    /** s, a, f done k times. */
    public int power(int which, int k) {
        int p = turn(which);
        if (p == 0 || k < 0) {
            return NONE;
        }
        return Perm.digits(Perm.times(p, k), now.n);
    }

    /** The permutations that, done k times, are s, a, f. */
    public int roots(int which, int k, int i) {
        int p = turn(which);
        if (p == 0 || k < 1 || k > MOST_EXPONENT || i < NONE) {
            return NONE;
        }
        census.prepare(now.n);
        int many = 0;
        for (int at = 0; at < Kind.factorial(now.n); at++) {
            int q = census.permutation(at);
            if (Perm.isRoot(q, k, p)) {
                if (many == i) {
                    return Perm.digits(q, now.n);
                }
                many++;
            }
        }
        return i == NONE ? many : MISSING;
    }

    /** Two permutations reckoned with. */
    public int reckon(int how, int code, int code2) {
        int p = Perm.read(code, now.n);
        int q = Perm.read(code2, now.n);
        if (p == 0 || q == 0) {
            return NONE;
        }
        switch (how) {
            case 0:
                return Perm.digits(Perm.then(p, q), now.n);
            case 1:
                return Perm.digits(Perm.relabelled(p, q), now.n);
            case 2:
                int undone = Perm.then(Perm.back(p), Perm.back(q));
                return Perm.digits(Perm.then(undone, Perm.then(p, q)), now.n);
            case 3:
                return Perm.swap(p, q) ? 1 : 0;
            default:
                return NONE;
        }
    }

    /** The fewest turns from a dart to a dart. */
    public int way(int from, int to) {
        if (!dartStands(from) || !dartStands(to)) {
            return NONE;
        }
        int reached = Perm.bit(from);
        for (int turns = 0; turns < now.n; turns++) {
            if ((reached & Perm.bit(to)) != 0) {
                return turns;
            }
            reached = Perm.around(now.s, now.a, reached);
        }
        return MISSING;
    }

    /** How many darts two cycles both have. */
    public int meet(int which, int dart, int other, int dart2) {
        int p = turn(which);
        int q = turn(other);
        if (p == 0 || q == 0 || !dartStands(dart) || !dartStands(dart2)) {
            return NONE;
        }
        return Integer.bitCount(Perm.ring(p, dart) & Perm.ring(q, dart2));
    }

    // ---- the album

    /** The class of this map comes to the album. */
    public int paste() {
        if (!connected()) {
            return MISSING;
        }
        relabels.settle(now.n, now.s, now.a);
        int place = now.placeOf(now.n, relabels.leastS, relabels.leastA);
        if (place != NONE) {
            return place;
        }
        return now.add(now.n, relabels.leastS, relabels.leastA);
    }

    /** A piece of the album. */
    public int piece(int i, int what) {
        if (i < 0 || i >= now.pieces || i >= MOST_PIECES) {
            return NONE;
        }
        int n = now.darts[i];
        switch (what) {
            case 0:
                return n;
            case 1:
                return Perm.digits(now.blacks[i], n);
            case 2:
                return Perm.digits(now.whites[i], n);
            case 3:
                return Perm.genus(now.blacks[i], now.whites[i], Perm.darts(n));
            default:
                return NONE;
        }
    }

    /** A piece of the album becomes the map. */
    public int take(int i) {
        if (i < 0 || i >= now.pieces || i >= MOST_PIECES) {
            return NONE;
        }
        int before = now.n;
        now.n = now.darts[i];
        now.s = now.blacks[i];
        now.a = now.whites[i];
        return before;
    }

    /** All but the tape is kept. */
    public int keep() {
        if (states < 0 || states >= MOST_STATES || kept[states] == null) {
            return NONE;
        }
        kept[states].become(now);
        states++;
        return states;
    }

    /** All is as it was kept last. */
    public int undo() {
        if (states < 1 || states > MOST_STATES || kept[states - 1] == null) {
            return NONE;
        }
        states--;
        now.become(kept[states]);
        return states;
    }

    /** All that keep() keeps: the map and the album. */
    private static final class State {
        int n = 3;
        int s = Perm.STAY;
        int a = Perm.STAY;
        int pieces;
        final int[] darts = new int[MOST_PIECES];
        final int[] blacks = new int[MOST_PIECES];
        final int[] whites = new int[MOST_PIECES];

        void become(State other) {
            n = other.n;
            s = other.s;
            a = other.a;
            pieces = other.pieces;
            for (int i = 0; i < MOST_PIECES; i++) {
                darts[i] = other.darts[i];
                blacks[i] = other.blacks[i];
                whites[i] = other.whites[i];
            }
        }

        int placeOf(int degree, int black, int white) {
            for (int i = 0; i < pieces && i < MOST_PIECES; i++) {
                if (darts[i] == degree && blacks[i] == black && whites[i] == white) {
                    return i;
                }
            }
            return NONE;
        }

        int add(int degree, int black, int white) {
            if (pieces < 0 || pieces >= MOST_PIECES) {
                return FULL;
            }
            darts[pieces] = degree;
            blacks[pieces] = black;
            whites[pieces] = white;
            pieces++;
            return pieces - 1;
        }
    }

    /**
     * Permutations, and maps of two of them. A permutation is one int, so that none is ever made
     * anew: its hex digit x from the left (of seven) tells where dart x comes, darts behind n stay.
     * So permutations of one n are ordered as their codes are. 0 is no permutation. Sets of darts
     * are bits, bit x less 1 for dart x.
     */
    private static final class Perm {
        static final int STAY = 0x1234567;

        private Perm() {
        }

        static int shift(int x) {
            return 28 - 4 * x;
        }

        static int at(int p, int x) {
            return p >> 28 - 4 * x & 7;
        }

        static int bit(int x) {
            return 1 << x - 1;
        }

        static int darts(int n) {
            return (1 << n) - 1;
        }

        static int lowest(int set) {
            return Integer.bitCount((set & -set) - 1) + 1;
        }

        /** What stays behind n, alone. */
        static int tail(int n) {
            return n >= MOST_DARTS ? 0 : STAY & (1 << shift(n)) - 1;
        }

        static int then(int p, int q) {
            int r = 0;
            for (int x = 1; x <= MOST_DARTS; x++) {
                r = r << 4 | at(q, at(p, x));
            }
            return r;
        }

        static int back(int p) {
            int r = 0;
            for (int x = 1; x <= MOST_DARTS; x++) {
                r |= x << shift(at(p, x));
            }
            return r;
        }

        static int faces(int s, int a) {
            return back(then(s, a));
        }

        static int relabelled(int p, int r) {
            int q = 0;
            for (int x = 1; x <= MOST_DARTS; x++) {
                q |= at(r, at(p, x)) << shift(at(r, x));
            }
            return q;
        }

        static int swapped(int p, int x, int y) {
            int change = at(p, x) ^ at(p, y);
            return p ^ change << shift(x) ^ change << shift(y);
        }

        /** Whether p, then q is the same as q, then p. */
        static boolean swap(int p, int q) {
            for (int x = 1; x <= MOST_DARTS; x++) {
                if (at(q, at(p, x)) != at(p, at(q, x))) {
                    return false;
                }
            }
            return true;
        }

        static int digits(int p, int n) {
            int code = 0;
            for (int x = 1; x <= n; x++) {
                code = 10 * code + at(p, x);
            }
            return code;
        }

        /** The permutation of a code; 0: there is no such code of n. */
        static int read(int code, int n) {
            int rest = code;
            int used = 0;
            int p = tail(n);
            for (int x = n; x >= 1; x--) {
                int y = rest % 10;
                if (y < 1 || y > n || (used & bit(y)) != 0) {
                    return 0;
                }
                used |= bit(y);
                p |= y << shift(x);
                rest /= 10;
            }
            return rest == 0 ? p : 0;
        }

        /** Its place among the permutations of n, by codes, from 0. */
        static int rank(int p, int n) {
            int place = 0;
            int free = darts(n);
            for (int x = 1; x <= n; x++) {
                int y = bit(at(p, x));
                place = place * (n - x + 1) + Integer.bitCount(free & y - 1);
                free &= ~y;
            }
            return place;
        }

        /** The next by codes; the last one's next is itself. */
        static int next(int p, int n) {
            int x = n - 1;
            while (x >= 1 && at(p, x) > at(p, x + 1)) {
                x--;
            }
            if (x < 1) {
                return p;
            }
            int y = n;
            while (y > x && at(p, y) < at(p, x)) {
                y--;
            }
            int q = swapped(p, x, y);
            int high = n;
            for (int low = x + 1; low < high; low++) {
                q = swapped(q, low, high);
                high--;
            }
            return q;
        }

        /** The darts of a dart's cycle. */
        static int ring(int p, int x) {
            int set = 0;
            int y = x;
            for (int i = 0; i < MOST_DARTS && (set & bit(y)) == 0; i++) {
                set |= bit(y);
                y = at(p, y);
            }
            return set;
        }

        static boolean leastOfRing(int p, int x) {
            return (ring(p, x) & bit(x) - 1) == 0;
        }

        /** How many cycles a set of darts has that holds each of its cycles whole. */
        static int rings(int p, int set) {
            int many = 0;
            int left = set;
            for (int i = 0; i < MOST_DARTS && left != 0; i++) {
                left &= ~ring(p, lowest(left));
                many++;
            }
            return many;
        }

        /** The least dart of cycle i; 0: not so many. */
        static int nthLeast(int p, int n, int i) {
            int left = i;
            for (int x = 1; x <= n; x++) {
                if (leastOfRing(p, x)) {
                    if (left == 0) {
                        return x;
                    }
                    left--;
                }
            }
            return 0;
        }

        static int kind(int p, int n) {
            int tally = 0;
            int left = darts(n);
            for (int i = 0; i < MOST_DARTS && left != 0; i++) {
                int ring = ring(p, lowest(left));
                left &= ~ring;
                tally += 1 << shift(Integer.bitCount(ring));
            }
            int type = 0;
            for (int size = n; size >= 1; size--) {
                for (int many = at(tally, size); many > 0; many--) {
                    type = 10 * type + size;
                }
            }
            return type;
        }

        static int resting(int p, int n) {
            int many = 0;
            for (int x = 1; x <= n; x++) {
                if (at(p, x) == x) {
                    many++;
                }
            }
            return many;
        }

        static int order(int p, int n) {
            int times = 1;
            int left = darts(n);
            for (int i = 0; i < MOST_DARTS && left != 0; i++) {
                int ring = ring(p, lowest(left));
                left &= ~ring;
                times = multiple(times, Integer.bitCount(ring));
            }
            return times;
        }

        private static int multiple(int times, int size) {
            int sum = times;
            for (int i = 0; i < size && sum % size != 0; i++) {
                sum += times;
            }
            return sum;
        }

        static int times(int p, int k) {
            int q = 0;
            for (int x = 1; x <= MOST_DARTS; x++) {
                int size = Integer.bitCount(ring(p, x));
                q = q << 4 | step(p, x, size < 1 ? 0 : k % size);
            }
            return q;
        }

        static int step(int p, int x, int k) {
            int y = x;
            for (int i = 0; i < k; i++) {
                y = at(p, y);
            }
            return y;
        }

        static boolean isRoot(int q, int k, int p) {
            for (int x = 1; x <= MOST_DARTS; x++) {
                if (step(q, x, k) != at(p, x)) {
                    return false;
                }
            }
            return true;
        }

        static int black(int operation, int s, int a) {
            switch (operation) {
                case 1:
                    return back(s);
                case 3:
                    return faces(s, a);
                default:
                    return a;
            }
        }

        static int white(int operation, int s, int a) {
            switch (operation) {
                case 0:
                    return s;
                case 1:
                    return back(a);
                case 2:
                    return faces(s, a);
                default:
                    return a;
            }
        }

        /** The darts that come from a dart by s and a. */
        static int reach(int s, int a, int x) {
            int reached = bit(x);
            int left = reached;
            for (int i = 0; i < MOST_DARTS && left != 0; i++) {
                int y = lowest(left);
                int fresh = (bit(at(s, y)) | bit(at(a, y))) & ~reached;
                reached |= fresh;
                left = left & ~bit(y) | fresh;
            }
            return reached;
        }

        static boolean joined(int s, int a, int n) {
            return reach(s, a, 1) == darts(n);
        }

        static int parts(int s, int a, int n) {
            int many = 0;
            int left = darts(n);
            for (int i = 0; i < MOST_DARTS && left != 0; i++) {
                left &= ~reach(s, a, lowest(left));
                many++;
            }
            return many;
        }

        /** The genus of a part, told by its darts. */
        static int genus(int s, int a, int part) {
            int rings = rings(s, part) + rings(a, part) + rings(faces(s, a), part);
            return (Integer.bitCount(part) + 2 - rings) / 2;
        }

        /** A set with all darts that are one turn from it. */
        static int around(int s, int a, int set) {
            int wider = set;
            for (int x = 1; x <= MOST_DARTS; x++) {
                int near = bit(at(s, x)) | bit(at(a, x));
                if ((set & bit(x)) != 0) {
                    wider |= near;
                }
                if ((set & bit(at(s, x))) != 0 || (set & bit(at(a, x))) != 0) {
                    wider |= bit(x);
                }
            }
            return wider;
        }

        /** The one of a type with the least code: small cycles first, each along the numbers. */
        static int least(int type, int n) {
            int p = tail(n);
            int x = 1;
            int rest = type;
            for (int i = 0; i < MOST_DARTS && rest > 0; i++) {
                int last = x + rest % 10 - 1;
                p |= x << shift(last);
                while (x < last) {
                    p |= x + 1 << shift(x);
                    x++;
                }
                x++;
                rest /= 10;
            }
            return p;
        }
    }

    /** Types and characters. */
    private static final class Kind {
        /** The types of 1, of 2, .. of 7, each by numbers falling. */
        private static final int[] LIST = {
            1,
            11, 2,
            111, 21, 3,
            1111, 211, 31, 22, 4,
            11111, 2111, 311, 221, 41, 32, 5,
            111111, 21111, 3111, 2211, 411, 321, 222, 51, 42, 33, 6,
            1111111, 211111, 31111, 22111, 4111, 3211, 2221, 511, 421, 331, 322, 61, 52, 43, 7
        };
        private static final int[] FIRST = {0, 0, 1, 3, 6, 11, 18, 29, 44};
        private static final int[] FACTORIAL = {1, 1, 2, 6, 24, 120, 720, 5040};
        static final int MOST = 15;
        private static final int BEADS = 14;

        private Kind() {
        }

        static int many(int n) {
            return n < 1 || n > MOST_DARTS ? 0 : FIRST[n + 1] - FIRST[n];
        }

        static int nth(int n, int i) {
            return i < 0 || i >= many(n) ? 0 : LIST[FIRST[n] + i];
        }

        static int index(int t, int n) {
            for (int i = 0; i < many(n); i++) {
                if (nth(n, i) == t) {
                    return i;
                }
            }
            return NONE;
        }

        /** How many permutations of n there are; 0: no such n. */
        static int factorial(int n) {
            return n < 1 || n > MOST_DARTS ? 0 : FACTORIAL[n];
        }

        /** How many cycles a type tells. */
        static int parts(int t) {
            int many = 0;
            for (int rest = t; rest > 0; rest /= 10) {
                many++;
            }
            return many;
        }

        /** How many permutations have a type. */
        static int members(int t, int n) {
            int fixing = 1;
            int before = 0;
            int run = 0;
            for (int rest = t; rest > 0; rest /= 10) {
                run = rest % 10 == before ? run + 1 : 1;
                before = rest % 10;
                fixing *= before * run;
            }
            return fixing < 1 ? 0 : factorial(n) / fixing;
        }

        /**
         * A character's value. Row i from below (from 0) with k boxes is a bead at k and i: to take
         * a rim strip is to bring a bead to a free place below, over one bead less than the rows
         * that it touches.
         */
        static int value(int p, int t) {
            int beads = 0;
            int row = 0;
            for (int rest = p; rest > 0; rest /= 10) {
                beads |= 1 << rest % 10 + row;
                row++;
            }
            return strips(beads, t, 0);
        }

        private static int strips(int beads, int t, int depth) {
            if (t == 0 || depth > MOST_DARTS) {
                return 1;
            }
            int tens = 1;
            for (int i = 0; i < 10 && t / tens >= 10; i++) {
                tens *= 10;
            }
            int boxes = t / tens;
            int sum = 0;
            for (int from = boxes; from < BEADS; from++) {
                int to = from - boxes;
                if ((beads >> from & 1) == 1 && (beads >> to & 1) == 0) {
                    int over = beads & (1 << from) - 1 & -(1 << to);
                    int rest = strips(beads ^ 1 << from ^ 1 << to, t % tens, depth + 1);
                    sum += (Integer.bitCount(over) & 1) == 0 ? rest : -rest;
                }
            }
            return sum;
        }

        static long byCharacters(int t1, int t2, int t3, int n) {
            long all = factorial(n);
            if (all < 1) {
                return 0;
            }
            long sum = 0;
            for (int i = 0; i < many(n); i++) {
                int p = nth(n, i);
                int width = value(p, nth(n, 0));
                // a character's width goes into n!, so n! times the sum stays whole
                if (width > 0) {
                    sum += all / width * value(p, t1) * value(p, t2) * value(p, t3);
                }
            }
            return sum * members(t1, n) * members(t2, n) * members(t3, n) / all / all;
        }
    }

    /** All relabellings that bring a permutation to another, by codes, and what comes of them. */
    private static final class Relabels {
        /** More than any permutation. */
        private static final int BEHIND_ALL = 0x8000000;
        private final int[] found = new int[MOST_PERMUTATIONS];
        private final int[] ringFrom = new int[MOST_DARTS + 1];
        private final int[] ringTo = new int[MOST_DARTS + 1];
        private int n;
        private int from;
        private int to;
        int many;
        int leastS;
        int leastA;
        int auts;

        void gather(int degree, int p, int q) {
            n = degree;
            from = p;
            to = q;
            many = 0;
            for (int x = 1; x <= MOST_DARTS; x++) {
                ringFrom[x] = Perm.ring(from, x);
                ringTo[x] = Perm.ring(to, x);
            }
            grow(this, Perm.tail(n), Perm.darts(n), Perm.darts(n), 0);
        }

        int nth(int i) {
            return i < 0 || i >= many || i >= MOST_PERMUTATIONS ? Perm.STAY : found[i];
        }

        /** The least dart without a label gets each label in turn: its cycle's labels follow. */
        private static void grow(Relabels rows, int r, int left, int free, int depth) {
            if (depth > MOST_DARTS || rows.many >= MOST_PERMUTATIONS) {
                return;
            }
            if (left == 0) {
                rows.found[rows.many] = r;
                rows.many++;
                return;
            }
            int x = Perm.lowest(left);
            if (x > MOST_DARTS) {
                return;
            }
            int ring = rows.ringFrom[x];
            int size = Integer.bitCount(ring);
            for (int y = 1; y <= rows.n && y <= MOST_DARTS; y++) {
                int goal = rows.ringTo[y];
                if ((free & Perm.bit(y)) != 0 && Integer.bitCount(goal) == size) {
                    grow(rows, r | rows.laid(x, y, size), left & ~ring, free & ~goal, depth + 1);
                }
            }
        }

        private int laid(int x, int y, int size) {
            int r = 0;
            int dart = x;
            int mark = y;
            for (int i = 0; i < size; i++) {
                r |= mark << Perm.shift(dart);
                dart = Perm.at(from, dart);
                mark = Perm.at(to, mark);
            }
            return r;
        }

        /** The least relabelling that brings a map to another; 0: none. */
        int first(int degree, int s, int a, int s2, int a2) {
            gather(degree, s, s2);
            for (int i = 0; i < many; i++) {
                if (Perm.relabelled(a, nth(i)) == a2) {
                    return nth(i);
                }
            }
            return 0;
        }

        /** The least form of a map, and how many relabellings leave the map as it is. */
        void settle(int degree, int s, int a) {
            leastS = Perm.least(Perm.kind(s, degree), degree);
            gather(degree, s, leastS);
            leastA = BEHIND_ALL;
            auts = 0;
            for (int i = 0; i < many; i++) {
                int white = Perm.relabelled(a, nth(i));
                if (white < leastA) {
                    leastA = white;
                    auts = 0;
                }
                // as many bring a map to its least form as to itself
                if (white == leastA) {
                    auts++;
                }
            }
        }

        int symmetries(int degree, int s, int a) {
            int bits = 0;
            for (int what = 0; what < OPERATIONS; what++) {
                int black = Perm.black(what, s, a);
                int white = Perm.white(what, s, a);
                if (first(degree, s, a, black, white) != 0) {
                    bits |= 1 << what;
                }
            }
            return bits;
        }
    }

    /**
     * How many permutations a group has, without a list of them (Furst, Hopcroft and Luks): steps
     * that leave the darts ahead of k and move k, one for each dart where k may come. When each two
     * steps, one behind the other, come to nothing by steps, all is found.
     */
    private static final class Chain {
        private static final int WIDTH = 8;
        private static final int MOST_STEPS = 21;
        private final int[] undoing = new int[WIDTH * WIDTH];
        private final int[] steps = new int[MOST_STEPS];
        private int many;

        int order(int n, int s, int a) {
            for (int i = 0; i < WIDTH * WIDTH; i++) {
                undoing[i] = 0;
            }
            many = 0;
            sift(s, n);
            sift(a, n);
            int most = most(n, s, a);
            for (int i = 0; i < many && i < MOST_STEPS && many < most; i++) {
                for (int j = 0; j <= i && many < most; j++) {
                    sift(Perm.then(steps[i], steps[j]), n);
                    sift(Perm.then(steps[j], steps[i]), n);
                }
            }
            return found(n);
        }

        /** With so many steps it has all permutations, or all even ones: no more can come. */
        private static int most(int n, int s, int a) {
            int odd = n - Perm.rings(s, Perm.darts(n)) | n - Perm.rings(a, Perm.darts(n));
            return n * (n - 1) / 2 - ((odd & 1) == 0 ? 1 : 0);
        }

        private void sift(int p, int n) {
            int rest = p;
            for (int k = 1; k < n; k++) {
                int y = Perm.at(rest, k);
                int slot = WIDTH * k + y;
                if (y == k || slot >= WIDTH * WIDTH) {
                    continue;
                }
                if (undoing[slot] == 0) {
                    if (many < MOST_STEPS) {
                        undoing[slot] = Perm.back(rest);
                        steps[many] = rest;
                        many++;
                    }
                    return;
                }
                rest = Perm.then(rest, undoing[slot]);
            }
        }

        private int found(int n) {
            int all = 1;
            for (int k = 1; k < n && k < WIDTH; k++) {
                int ways = 1;
                for (int y = k + 1; y < WIDTH; y++) {
                    if (undoing[WIDTH * k + y] != 0) {
                        ways++;
                    }
                }
                all *= ways;
            }
            return all;
        }
    }

    /** The permutations of a group, each with the fewest turns that give it. */
    private static final class Group {
        private final int[] members = new int[MOST_PERMUTATIONS];
        private final int[] turns = new int[MOST_PERMUTATIONS];
        private int many;
        private int n;
        private int s;
        private int a;

        /** Nothing is done if it is this map's group already. */
        void fill(int degree, int black, int white) {
            if (n == degree && s == black && a == white) {
                return;
            }
            n = degree;
            s = black;
            a = white;
            for (int i = 0; i < MOST_PERMUTATIONS; i++) {
                turns[i] = NONE;
            }
            many = 0;
            add(Perm.STAY, 0);
            int undoS = Perm.back(s);
            int undoA = Perm.back(a);
            for (int i = 0; i < many && i < MOST_PERMUTATIONS; i++) {
                int p = members[i];
                int next = turnsTo(p) + 1;
                add(Perm.then(p, s), next);
                add(Perm.then(p, a), next);
                add(Perm.then(p, undoS), next);
                add(Perm.then(p, undoA), next);
            }
        }

        private void add(int p, int by) {
            int rank = Perm.rank(p, n);
            boolean room = many < MOST_PERMUTATIONS && rank >= 0 && rank < MOST_PERMUTATIONS;
            if (room && turns[rank] == NONE) {
                turns[rank] = by;
                members[many] = p;
                many++;
            }
        }

        int turnsTo(int p) {
            int rank = Perm.rank(p, n);
            return rank < 0 || rank >= MOST_PERMUTATIONS ? NONE : turns[rank];
        }

        int ofKind(int type) {
            int found = 0;
            for (int i = 0; i < many && i < MOST_PERMUTATIONS; i++) {
                if (Perm.kind(members[i], n) == type) {
                    found++;
                }
            }
            return found;
        }

        int ofOrder(int times) {
            int found = 0;
            for (int i = 0; i < many && i < MOST_PERMUTATIONS; i++) {
                if (Perm.order(members[i], n) == times) {
                    found++;
                }
            }
            return found;
        }

        int centre() {
            int found = 0;
            for (int i = 0; i < many && i < MOST_PERMUTATIONS; i++) {
                if (Perm.swap(members[i], s) && Perm.swap(members[i], a)) {
                    found++;
                }
            }
            return found;
        }
    }

    /** The block systems of a connected map. */
    private static final class Blocks {
        private final int[] sets = new int[MOST_DARTS];
        private int many;

        int systems(int n, int s, int a) {
            int found = 0;
            while (found < 1 << n && find(n, s, a, found)) {
                found++;
            }
            return found;
        }

        /** Lays the darts out by system i, if there is one. */
        boolean find(int n, int s, int a, int i) {
            int left = i;
            for (int d = 2; d < n; d++) {
                for (int set = 1; set < 1 << n; set += 2) {
                    if (Integer.bitCount(set) == d && lay(s, a, set)) {
                        if (left == 0) {
                            sort();
                            return true;
                        }
                        left--;
                    }
                }
            }
            return false;
        }

        /** Whether a set with all that comes of it by s and a lays the darts apart. */
        private boolean lay(int s, int a, int set) {
            many = 0;
            if (!admit(set)) {
                return false;
            }
            for (int i = 0; i < many && i < MOST_DARTS; i++) {
                if (!admit(moved(s, sets[i])) || !admit(moved(a, sets[i]))) {
                    return false;
                }
            }
            return true;
        }

        private boolean admit(int set) {
            for (int i = 0; i < many && i < MOST_DARTS; i++) {
                if (sets[i] == set) {
                    return true;
                }
                if ((sets[i] & set) != 0) {
                    return false;
                }
            }
            if (many >= MOST_DARTS) {
                return false;
            }
            sets[many] = set;
            many++;
            return true;
        }

        private static int moved(int p, int set) {
            int image = 0;
            for (int x = 1; x <= MOST_DARTS; x++) {
                if ((set & Perm.bit(x)) != 0) {
                    image |= Perm.bit(Perm.at(p, x));
                }
            }
            return image;
        }

        private void sort() {
            for (int i = 1; i < many && i < MOST_DARTS; i++) {
                for (int k = i; k > 0; k--) {
                    int set = sets[k];
                    if (Perm.lowest(set) < Perm.lowest(sets[k - 1])) {
                        sets[k] = sets[k - 1];
                        sets[k - 1] = set;
                    }
                }
            }
        }

        int withDartOne() {
            return sets[0];
        }

        /** Code of what a permutation does to the sets. */
        int smaller(int p) {
            int code = 0;
            for (int i = 0; i < many && i < MOST_DARTS; i++) {
                int goal = Perm.bit(Perm.at(p, Perm.lowest(sets[i])));
                for (int k = 0; k < many && k < MOST_DARTS; k++) {
                    if ((sets[k] & goal) != 0) {
                        code = 10 * code + k + 1;
                    }
                }
            }
            return code;
        }
    }

    /** All permutations of n by codes, and the maps of passports among them. */
    private static final class Census {
        /** No passport has so many classes: 61, 61, 7 has the most, which are 40. */
        private static final int MOST_CLASSES = 64;
        private final int[] every = new int[MOST_PERMUTATIONS];
        private final int[] kindOf = new int[MOST_PERMUTATIONS];
        private int n;
        private int total;
        private final int[] all = new int[Kind.MOST];
        private final int[] connected = new int[Kind.MOST];
        private int tallied1;
        private int tallied2;
        private final boolean[] seen = new boolean[MOST_PERMUTATIONS];
        private final int[] whites = new int[MOST_CLASSES];
        private final int[] leaving = new int[MOST_CLASSES];
        private int listed1;
        private int listed2;
        private int listed3;
        int listed;
        int black;

        void prepare(int degree) {
            if (degree == n || degree < 1 || degree > MOST_DARTS) {
                return;
            }
            n = degree;
            total = Kind.factorial(n);
            tallied1 = 0;
            listed1 = 0;
            int p = Perm.STAY;
            for (int i = 0; i < total && i < MOST_PERMUTATIONS; i++) {
                every[i] = p;
                kindOf[i] = Perm.kind(p, n);
                p = Perm.next(p, n);
            }
        }

        int permutation(int i) {
            return i < 0 || i >= MOST_PERMUTATIONS ? Perm.STAY : every[i];
        }

        /**
         * For one s of the first type, how many a of the second there are, by the types of f. Each
         * other s of the type has as many.
         */
        void tally(int degree, int t1, int t2) {
            prepare(degree);
            if (tallied1 == t1 && tallied2 == t2) {
                return;
            }
            tallied1 = t1;
            tallied2 = t2;
            for (int i = 0; i < Kind.MOST; i++) {
                all[i] = 0;
                connected[i] = 0;
            }
            int s = Perm.least(t1, n);
            for (int i = 0; i < total && i < MOST_PERMUTATIONS; i++) {
                if (kindOf[i] == t2) {
                    tell(s, every[i]);
                }
            }
        }

        private void tell(int s, int a) {
            // what undoes f has f's type
            int at = Kind.index(Perm.kind(Perm.then(s, a), n), n);
            if (at >= 0 && at < Kind.MOST) {
                all[at]++;
                if (Perm.joined(s, a, n)) {
                    connected[at]++;
                }
            }
        }

        int found(int t3) {
            int at = Kind.index(t3, n);
            return at < 0 || at >= Kind.MOST ? 0 : all[at];
        }

        int foundConnected(int t3) {
            int at = Kind.index(t3, n);
            return at < 0 || at >= Kind.MOST ? 0 : connected[at];
        }

        /**
         * The classes of a passport: in a least form s is the least of its type, so a class is what
         * comes of one a by the relabellings that leave that s.
         */
        void list(Relabels relabels, int degree, int t1, int t2, int t3) {
            prepare(degree);
            if (listed1 == t1 && listed2 == t2 && listed3 == t3) {
                return;
            }
            listed1 = t1;
            listed2 = t2;
            listed3 = t3;
            listed = 0;
            black = Perm.least(t1, n);
            relabels.gather(n, black, black);
            for (int i = 0; i < MOST_PERMUTATIONS; i++) {
                seen[i] = false;
            }
            for (int i = 0; i < total && i < MOST_PERMUTATIONS; i++) {
                if (!seen[i] && kindOf[i] == t2 && belongs(every[i], t3)) {
                    open(relabels, every[i]);
                }
            }
        }

        private boolean belongs(int a, int t3) {
            return Perm.joined(black, a, n) && Perm.kind(Perm.then(black, a), n) == t3;
        }

        private void open(Relabels relabels, int a) {
            int auts = 0;
            for (int i = 0; i < relabels.many; i++) {
                int like = Perm.relabelled(a, relabels.nth(i));
                if (like == a) {
                    auts++;
                }
                int rank = Perm.rank(like, n);
                if (rank >= 0 && rank < MOST_PERMUTATIONS) {
                    seen[rank] = true;
                }
            }
            if (listed < MOST_CLASSES) {
                whites[listed] = a;
                leaving[listed] = auts;
                listed++;
            }
        }

        int white(int i) {
            return i < 0 || i >= MOST_CLASSES ? Perm.STAY : whites[i];
        }

        int auts(int i) {
            return i < 0 || i >= MOST_CLASSES ? 0 : leaving[i];
        }
    }

    /** The classes that come of a map by operations, by their least forms. */
    private static final class Family {
        /** Operations, but for relabelling, are the three turns in any order, mirrored or not. */
        private static final int MOST = 12;
        private final int[] blacks = new int[MOST];
        private final int[] whites = new int[MOST];
        int many;

        void gather(Relabels relabels, int n, int s, int a) {
            many = 0;
            relabels.settle(n, s, a);
            add(relabels.leastS, relabels.leastA);
            for (int i = 0; i < many && i < MOST; i++) {
                for (int what = 0; what < OPERATIONS; what++) {
                    int black = Perm.black(what, blacks[i], whites[i]);
                    int white = Perm.white(what, blacks[i], whites[i]);
                    relabels.settle(n, black, white);
                    add(relabels.leastS, relabels.leastA);
                }
            }
            sort();
        }

        private void add(int s, int a) {
            for (int i = 0; i < many && i < MOST; i++) {
                if (blacks[i] == s && whites[i] == a) {
                    return;
                }
            }
            if (many < MOST) {
                blacks[many] = s;
                whites[many] = a;
                many++;
            }
        }

        private void sort() {
            for (int i = 1; i < many && i < MOST; i++) {
                for (int k = i; k > 0 && behind(k - 1, k); k--) {
                    int s = blacks[k];
                    int a = whites[k];
                    blacks[k] = blacks[k - 1];
                    whites[k] = whites[k - 1];
                    blacks[k - 1] = s;
                    whites[k - 1] = a;
                }
            }
        }

        private boolean behind(int i, int k) {
            if (i < 0 || k < 0 || i >= MOST || k >= MOST) {
                return false;
            }
            return blacks[i] > blacks[k] || blacks[i] == blacks[k] && whites[i] > whites[k];
        }

        int black(int i) {
            return i < 0 || i >= MOST ? Perm.STAY : blacks[i];
        }

        int white(int i) {
            return i < 0 || i >= MOST ? Perm.STAY : whites[i];
        }
    }

    /** Reads a permutation as a text, one byte behind the other. */
    private static final class Reader {
        private static final int NOTHING_YET = 0;
        private static final int OUTSIDE = 1;
        private static final int OPENED = 2;
        private static final int BEHIND_NUMBER = 3;
        private static final int BEHIND_BLANK = 4;
        private static final int ALL_STAY = 5;
        private static final int OUT_OF_PLACE = 1;
        private static final int NO_SUCH_NUMBER = 2;
        private static final int TOLD_ALREADY = 3;
        private int n;
        private int stand;
        private int told;
        private int first;
        private int last;
        private int p;

        void begin(int degree) {
            n = degree;
            stand = NOTHING_YET;
            told = 0;
            first = 0;
            last = 0;
            p = 0;
        }

        /** Takes a byte: 0, or the fault that it is. */
        int fault(int sign) {
            switch (sign) {
                case ' ':
                    stand = stand == BEHIND_NUMBER ? BEHIND_BLANK : stand;
                    return 0;
                case '(':
                    return step(stand == NOTHING_YET || stand == OUTSIDE, OPENED);
                case ')':
                    return close();
                case 'e':
                    return step(stand == NOTHING_YET, ALL_STAY);
                default:
                    return sign >= '0' && sign <= '9' ? number(sign - '0') : OUT_OF_PLACE;
            }
        }

        private int step(boolean inPlace, int next) {
            if (!inPlace) {
                return OUT_OF_PLACE;
            }
            stand = next;
            return 0;
        }

        private int close() {
            if (stand != BEHIND_NUMBER && stand != BEHIND_BLANK) {
                return OUT_OF_PLACE;
            }
            p |= first << Perm.shift(last);
            first = 0;
            stand = OUTSIDE;
            return 0;
        }

        private int number(int x) {
            if (stand != OPENED && stand != BEHIND_BLANK) {
                return OUT_OF_PLACE;
            }
            if (x < 1 || x > n) {
                return NO_SUCH_NUMBER;
            }
            if ((told & Perm.bit(x)) != 0) {
                return TOLD_ALREADY;
            }
            if (first == 0) {
                first = x;
            } else {
                p |= x << Perm.shift(last);
            }
            last = x;
            told |= Perm.bit(x);
            stand = BEHIND_NUMBER;
            return 0;
        }

        boolean complete() {
            return stand == OUTSIDE || stand == ALL_STAY;
        }

        /** What was read; darts that were not told stay. */
        int permutation() {
            int q = p;
            for (int x = 1; x <= MOST_DARTS; x++) {
                if ((told & Perm.bit(x)) == 0) {
                    q |= x << Perm.shift(x);
                }
            }
            return q;
        }
    }
}
