import java.util.Arrays;

/** An estate shared by claims: by six rules in exact fractions, by five of them in vessels too. */
public final class EstateVessels {
    public static final int NONE = -1, BAD = -2, STATE = -3, FULL = -4;
    public static final long NO = Long.MIN_VALUE;

    private static final int NOT_THERE = -5;
    private static final int NOTHING = -11, CAST = -12, PLACE = -13, SIZE = -14;

    private static final int EVEN = 0, LOSS = 1, SHARE = 2, TALMUD = 3, TURNED = 4, RULES = 6;
    private static final int MOST_CLAIMANTS = 6, MOST_CLAIM = 60, MOST_ESTATE = 360;
    private static final int MOST_DROPS = 60, MOST_TRIED = 30;
    private static final int MOST_SEEN = 5, MOST_EVENTS = 8, MOST_BOOK = 8;
    private static final int MOST_BYTES = 100, MOST_CLAUSES = 12;
    private static final int TAPES = 6, MOST_ITEMS = 60;
    private static final int NO_SORT = -1, BYTES = 0, SHORTS = 1, INTS = 2, LONGS = 3, SORTS = 5;
    private static final int ROW_ENDED = 100, FAULTY = -10;
    private static final int FLOAT_BIAS = 127, FLOAT_DIGITS = 23;
    private static final int DOUBLE_BIAS = 1023, DOUBLE_DIGITS = 52;

    private final Setup setup = new Setup();
    private final Setup trial = new Setup();
    private final Group pair = new Group();
    private final Vessels vessels = new Vessels();
    private final Rows seen = new Rows(MOST_SEEN);
    private final Rows events = new Rows(MOST_EVENTS);
    private final Rows records = new Rows(MOST_BOOK);
    private final Text text = new Text();
    private final Tape[] tapes = new Tape[TAPES];
    private final Image kept = new Image();

    public EstateVessels() {
        for (int k = 0; k < TAPES; k++) {
            tapes[k] = new Tape();
        }
    }

    // ---- claims, the estate

    public int claim(int claim) {
        if (!isClaim(claim)) {
            return BAD;
        }
        if (setup.group.size >= MOST_CLAIMANTS) {
            return FULL;
        }
        setup.group.add(claim);
        return setup.group.size - 1;
    }

    public int renew(int claimant, int v) {
        if (!setup.group.has(claimant)) {
            return NONE;
        }
        if (!isClaim(v)) {
            return BAD;
        }
        int before = setup.group.claims[claimant];
        setup.group.put(claimant, v);
        return before;
    }

    public int estate(int v) {
        if (!isEstate(v)) {
            return BAD;
        }
        int before = setup.estate;
        setup.estate = v;
        return before;
    }

    public int rule(int rule) {
        if (!isRule(rule)) {
            return BAD;
        }
        int before = setup.rule;
        setup.rule = rule;
        return before;
    }

    public int of(int claimant) {
        return setup.group.has(claimant) ? setup.group.claims[claimant] : NONE;
    }

    public int told(int what) {
        switch (what) {
            case 0: return setup.group.size;
            case 1: return setup.group.all();
            case 2: return setup.estate;
            case 3: return setup.rule;
            case 4: return setup.isReady() ? 1 : 0;
            default: return NONE;
        }
    }

    public int feed(int sign) {
        if (sign < 0 || sign > 127) {
            return BAD;
        }
        if (text.length >= MOST_BYTES) {
            return FULL;
        }
        text.signs[text.length] = (byte) sign;
        text.length++;
        return text.length;
    }

    public int read() {
        int fault = text.parse();
        text.length = 0;
        if (fault >= 0) {
            return FAULTY - fault;
        }
        int done = 0;
        for (int k = 0; k < text.clauses; k++) {
            if (perform(text.kinds[k], text.whos[k], text.values[k]) >= 0) {
                done++;
            }
        }
        return done;
    }

    private int perform(int kind, int who, int value) {
        switch (kind) {
            case 'c': return claim(value);
            case 'n': return renew(who, value);
            case 'e': return estate(value);
            default: return rule(value);
        }
    }

    // ---- awards

    public long award(int rule, int claimant, int part) {
        if (!isRule(rule) || !setup.group.has(claimant) || !isPart(part) || !setup.isReady()) {
            return NO;
        }
        return setup.fraction(rule, claimant, part);
    }

    public int cut(int rule, int claimant) {
        if (!isRule(rule)) {
            return BAD;
        }
        if (!setup.group.has(claimant)) {
            return NONE;
        }
        return setup.isReady() ? setup.whole(rule, claimant) : STATE;
    }

    public long dual(int rule, int claimant, int part) {
        if (!isRule(rule) || !setup.group.has(claimant) || !isPart(part) || !setup.isReady()) {
            return NO;
        }
        Group group = setup.group;
        long below = group.scale(rule);
        long loss = group.gets(rule, claimant, group.all() - setup.estate, 1);
        return inLowestTerms(group.claims[claimant] * below - loss, below, part);
    }

    public long alone(int rule, int i, int j, int part) {
        if (!isRule(rule) || !setup.group.has(i) || !setup.group.has(j) || i == j) {
            return NO;
        }
        if (!isPart(part) || !setup.isReady()) {
            return NO;
        }
        long above = firstOfTwo(rule, i, j);
        return inLowestTerms(above, pair.scale(rule) * setup.group.scale(rule), part);
    }

    /** What i gets with j alone, over both scales: that of the two times that of all. */
    private long firstOfTwo(int rule, int i, int j) {
        Group group = setup.group;
        pair.clear();
        pair.add(group.claims[i]);
        pair.add(group.claims[j]);
        long both = group.gets(rule, i, setup.estate, 1) + group.gets(rule, j, setup.estate, 1);
        return pair.gets(rule, 0, both, group.scale(rule));
    }

    public int consistent(int rule) {
        if (!isRule(rule)) {
            return BAD;
        }
        if (!setup.isReady()) {
            return STATE;
        }
        for (int i = 0; i < setup.group.size; i++) {
            for (int j = i + 1; j < setup.group.size; j++) {
                if (!isSameAlone(rule, i, j)) {
                    return 10 * i + j;
                }
            }
        }
        return NOT_THERE;
    }

    private boolean isSameAlone(int rule, int i, int j) {
        long alone = firstOfTwo(rule, i, j);
        return alone == setup.group.gets(rule, i, setup.estate, 1) * pair.scale(rule);
    }

    public long change(int rule, int i, int v, int j, int part) {
        if (!isRule(rule) || !setup.group.has(i) || !isClaim(v) || !setup.group.has(j)) {
            return NO;
        }
        if (!isPart(part) || !setup.isReady()) {
            return NO;
        }
        trial.copy(setup);
        trial.group.put(i, v);
        if (!trial.isReady()) {
            return NO;
        }
        long scaleNow = setup.group.scale(rule);
        long scaleThen = trial.group.scale(rule);
        long now = setup.group.gets(rule, j, setup.estate, 1);
        long then = trial.group.gets(rule, j, trial.estate, 1);
        return inLowestTerms(then * scaleNow - now * scaleThen, scaleNow * scaleThen, part);
    }

    public int inverse(int rule, int claimant, int v) {
        if (!isRule(rule)) {
            return BAD;
        }
        if (!setup.group.has(claimant)) {
            return NONE;
        }
        if (v < 0 || v > MOST_CLAIM) {
            return BAD;
        }
        Group group = setup.group;
        int all = group.all();
        long wanted = v * group.scale(rule);
        for (int e = 0; e <= all; e++) {
            if (group.gets(rule, claimant, e, 1) >= wanted) {
                return e;
            }
        }
        return NOT_THERE;
    }

    public int bends(int rule, int claimant) {
        if (!isRule(rule)) {
            return BAD;
        }
        if (!setup.group.has(claimant)) {
            return NONE;
        }
        Group group = setup.group;
        int all = group.all();
        int bends = 0;
        long before = group.gets(rule, claimant, 0, 1);
        long now = group.gets(rule, claimant, 1, 1);
        for (int e = 1; e < all; e++) {
            long next = group.gets(rule, claimant, e + 1, 1);
            if (next - now != now - before) {
                bends++;
            }
            before = now;
            now = next;
        }
        return bends;
    }

    public int like(int rule) {
        if (!isRule(rule)) {
            return BAD;
        }
        return setup.isReady() ? setup.alike(rule) : STATE;
    }

    public int sore(int rule, int k) {
        if (!isRule(rule)) {
            return BAD;
        }
        if (!setup.group.has(k)) {
            return NONE;
        }
        return setup.isReady() ? setup.sorest(rule, k) : STATE;
    }

    // ---- vessels

    public long poured(int rule, int n, int claimant) {
        if (!isPourable(rule, n) || !setup.isReady()) {
            return NO;
        }
        if (claimant != -1 && !setup.group.has(claimant)) {
            return NO;
        }
        vessels.pour(setup, rule, n);
        float amount = claimant == -1 ? vessels.spilled : vessels.amounts[claimant];
        return bits(amount, FLOAT_BIAS, FLOAT_DIGITS);
    }

    public long gap(int rule, int n, int part) {
        if (!isPourable(rule, n) || !isPart(part) || !setup.isReady()) {
            return NO;
        }
        vessels.pour(setup, rule, n);
        long bits = bits(widestGap(rule), DOUBLE_BIAS, DOUBLE_DIGITS);
        return part == 0 ? bits >>> 32 : bits & 0xFFFFFFFFL;
    }

    private double widestGap(int rule) {
        double widest = 0.0;
        double below = (double) setup.group.scale(rule);
        for (int i = 0; i < setup.group.size; i++) {
            double exact = (double) setup.group.gets(rule, i, setup.estate, 1) / below;
            double gap = (double) vessels.amounts[i] - exact;
            double size = gap < 0.0 ? -gap : gap;
            widest = size > widest ? size : widest;
        }
        return widest;
    }

    // ---- seen, odds

    public int see(int claimant, int n) {
        return tell(seen, claimant, n);
    }

    private int tell(Rows rows, int claimant, int n) {
        if (claimant == -1) {
            rows.size = 0;
            return 0;
        }
        if (!setup.group.has(claimant)) {
            return NONE;
        }
        return n < 0 || n > MOST_CLAIM ? BAD : rows.add(claimant, n);
    }

    public int fits(int claimant, int what) {
        if (!setup.group.has(claimant) || (what != 0 && what != 1)) {
            return NONE;
        }
        int many = 0;
        int least = NOT_THERE;
        trial.copy(setup);
        for (int v = 1; v <= MOST_TRIED; v++) {
            trial.group.put(claimant, v);
            if (trial.isReady() && firstOtherwise(trial, seen) < 0) {
                least = many == 0 ? v : least;
                many++;
            }
        }
        return what == 0 ? many : least;
    }

    /** The number of the first row that isn't cut so; NOT_THERE: each is. */
    private static int firstOtherwise(Setup setup, Rows rows) {
        for (int k = 0; k < rows.size; k++) {
            if (setup.whole(setup.rule, rows.first[k]) != rows.second[k]) {
                return k;
            }
        }
        return NOT_THERE;
    }

    public long odds(int rule, int claimant, int part) {
        if (!isRule(rule) || !setup.group.has(claimant) || !isPart(part)) {
            return NO;
        }
        Group group = setup.group;
        int all = group.all();
        long claim = group.claims[claimant] * group.scale(rule);
        int enough = 0;
        for (int e = 0; e <= all; e++) {
            if (2 * group.gets(rule, claimant, e, 1) >= claim) {
                enough++;
            }
        }
        return inLowestTerms(enough, all + 1, part);
    }

    public long mean(int part) {
        if (!isPart(part) || setup.group.size < 1) {
            return NO;
        }
        return inLowestTerms(setup.estate, setup.group.size, part);
    }

    // ---- events, books

    public int event(int what, int n) {
        if (what == -1) {
            events.size = 0;
            return 0;
        }
        if (what < 0 || what > 3 || (what < 2 && !setup.group.has(n))) {
            return NONE;
        }
        if ((what == 2 && !isRule(n)) || (what == 3 && !isEstate(n))) {
            return BAD;
        }
        return events.add(what, n);
    }

    public long after(int what) {
        if (what < 0 || what > 2) {
            return NO;
        }
        trial.copy(setup);
        for (int k = 0; k < events.size; k++) {
            trial.happen(events.first[k], events.second[k]);
        }
        if (!trial.isReady()) {
            return NO;
        }
        return what == 2 ? trial.alike(trial.rule) : trial.fraction(trial.rule, 0, what);
    }

    public int book(int claimant, int n) {
        return tell(records, claimant, n);
    }

    public int looked() {
        return setup.isReady() ? firstOtherwise(setup, records) : STATE;
    }

    // ---- judging, the image, tapes

    public int judge(int tape, int i) {
        if (!isTape(tape)) {
            return NONE;
        }
        if (!setup.isReady()) {
            return STATE;
        }
        Tape row = tapes[tape];
        if (row.sort != LONGS && row.sort != NO_SORT) {
            return CAST;
        }
        if (row.sort == NO_SORT || i < 0) {
            return ROW_ENDED;
        }
        for (int k = 0; k < setup.group.size; k++) {
            // i + k could pass the greatest int; the length less i can't.
            if (k >= row.length - i) {
                return ROW_ENDED + k;
            }
            if (row.items[i + k] != setup.whole(setup.rule, k)) {
                return k;
            }
        }
        return NOT_THERE;
    }

    public int image() {
        kept.taken = true;
        kept.setup.copy(setup);
        kept.seen.copy(seen);
        kept.events.copy(events);
        kept.records.copy(records);
        return setup.group.size;
    }

    public int undo() {
        if (!kept.taken) {
            return STATE;
        }
        setup.copy(kept.setup);
        seen.copy(kept.seen);
        events.copy(kept.events);
        records.copy(kept.records);
        return setup.group.size;
    }

    public int count(int what) {
        switch (what) {
            case 0: return seen.size;
            case 1: return events.size;
            case 2: return records.size;
            case 3: return text.length;
            default: return BAD;
        }
    }

    public int tape(int tape, int sort, int n) {
        if (!isTape(tape)) {
            return NONE;
        }
        if (sort == NO_SORT) {
            tapes[tape].become(NO_SORT, 0);
            return 1;
        }
        if (sort < 0 || sort >= SORTS || n > MOST_ITEMS) {
            return BAD;
        }
        if (n < 0) {
            return SIZE;
        }
        tapes[tape].become(sort, n);
        return 1;
    }

    public int item(int tape, int i, long v) {
        if (!isTape(tape)) {
            return NONE;
        }
        Tape row = tapes[tape];
        if (row.sort == NO_SORT) {
            return NOTHING;
        }
        if (!row.has(i)) {
            return PLACE;
        }
        row.items[i] = row.fitted(v);
        return 1;
    }

    public long peek(int tape, int i) {
        // A tape that holds nothing has no place.
        return isTape(tape) && tapes[tape].has(i) ? tapes[tape].items[i] : NO;
    }

    public int shift(int tape, int i, int other, int j, int n) {
        if (!isTape(tape) || !isTape(other)) {
            return NONE;
        }
        Tape from = tapes[tape];
        Tape to = tapes[other];
        if (from.sort == NO_SORT || to.sort == NO_SORT) {
            return NOTHING;
        }
        if (from.sort != to.sort) {
            return CAST;
        }
        if (!from.hasAll(i, n) || !to.hasAll(j, n)) {
            return PLACE;
        }
        System.arraycopy(from.items, i, to.items, j, n);
        return n;
    }

    // ---- what a number may be, fractions, bits

    private static boolean isClaim(int v) {
        return v >= 1 && v <= MOST_CLAIM;
    }

    private static boolean isEstate(int v) {
        return v >= 0 && v <= MOST_ESTATE;
    }

    private static boolean isRule(int rule) {
        return rule >= 0 && rule < RULES;
    }

    private static boolean isPart(int part) {
        return part == 0 || part == 1;
    }

    private static boolean isPourable(int rule, int n) {
        return rule >= EVEN && rule <= TURNED && n >= 1 && n <= MOST_DROPS;
    }

    private static boolean isTape(int tape) {
        return tape >= 0 && tape < TAPES;
    }

    private static long inLowestTerms(long above, long below, int part) {
        long divisor = greatestDivisor(Math.abs(above), below);
        if (divisor < 1) {
            return NO;
        }
        return (part == 0 ? above : below) / divisor;
    }

    private static long greatestDivisor(long a, long b) {
        long greater = a;
        long lesser = b;
        // Two longs are through in fewer than 100 steps.
        for (int step = 0; step < 100 && lesser != 0; step++) {
            long rest = greater % lesser;
            greater = lesser;
            lesser = rest;
        }
        return greater;
    }

    /** The bits of a value that is finite and not below 0: the language leaves no call that gives them. */
    private static long bits(double value, int bias, int digits) {
        if (value <= 0.0) {
            return 0;
        }
        double scaled = value;
        int exponent = bias;
        while (scaled >= 2.0 && exponent < 2 * bias) {
            scaled *= 0.5;
            exponent++;
        }
        while (scaled < 1.0 && exponent > 1) {
            scaled *= 2.0;
            exponent--;
        }
        // The leading 1 isn't kept; a value too small for one keeps exponent 0 so.
        long one = 1L << digits;
        return ((long) exponent << digits) + (long) (scaled * (double) one) - one;
    }

    /** Some claims, and what each gets of an estate by each rule. */
    private static final class Group {
        /** The halves of levels among six at most are whole in these parts. */
        private static final int PARTS = 120;
        /** In how many orders so many can arrive. */
        private static final int[] ORDERS = {1, 1, 2, 6, 24, 120, 720};

        final int[] claims = new int[MOST_CLAIMANTS];
        private final int[] ascending = new int[MOST_CLAIMANTS];
        /** What each set claims together: claimant i is in it by bit i of the place. */
        private final int[] together = new int[1 << MOST_CLAIMANTS];
        int size = 0;

        boolean has(int claimant) {
            return claimant >= 0 && claimant < size;
        }

        int all() {
            return together[(1 << size) - 1];
        }

        void clear() {
            size = 0;
        }

        void add(int claim) {
            if (size >= MOST_CLAIMANTS) {
                return;
            }
            int place = size;
            while (place > 0 && ascending[place - 1] > claim) {
                ascending[place] = ascending[place - 1];
                place--;
            }
            ascending[place] = claim;
            int sets = 1 << size;
            for (int set = 0; set < sets; set++) {
                together[sets + set] = together[set] + claim;
            }
            claims[size] = claim;
            size++;
        }

        void put(int claimant, int claim) {
            if (!has(claimant)) {
                return;
            }
            claims[claimant] = claim;
            // The other rows hang on all claims: they are made anew.
            copy(this);
        }

        void copy(Group other) {
            int many = other.size;
            clear();
            for (int k = 0; k < many; k++) {
                add(other.claims[k]);
            }
        }

        /** In what parts (times those of the estate) a rule's awards are told. */
        long scale(int rule) {
            switch (rule) {
                case EVEN: case LOSS: case TALMUD: case TURNED: return PARTS;
                case SHARE: return all();
                default: return ORDERS[size];
            }
        }

        /** What claimant i gets of above / below, in parts of 1 / (scale * below). */
        long gets(int rule, int i, long above, long below) {
            if (!has(i)) {
                return 0;
            }
            long whole = claims[i] * below * PARTS;
            long half = whole / 2;
            long rest = all() * below - above;
            switch (rule) {
                case EVEN: return 2 * levelled(i, above, below);
                case LOSS: return whole - 2 * levelled(i, rest, below);
                case SHARE: return above * claims[i];
                case TALMUD:
                    return above <= rest ? levelled(i, 2 * above, below)
                            : whole - levelled(i, 2 * rest, below);
                case TURNED:
                    return above <= rest ? half - levelled(i, rest - above, below)
                            : half + levelled(i, above - rest, below);
                default: return arrived(i, above, below);
            }
        }

        /** By one level for all; in parts twice as great as the rule's own, so in those it tells the half. */
        private long levelled(int i, long above, long below) {
            long parts = PARTS / 2;
            long claim = claims[i] * below * parts;
            long left = above;
            for (int k = 0; k < size; k++) {
                int many = size - k;
                if (left < ascending[k] * below * many) {
                    return Math.min(claim, left * parts / many);
                }
                left -= ascending[k] * below;
            }
            return claim;
        }

        /** Summed over the sets that can be ahead of i, each as often as there are orders with it ahead. */
        private long arrived(int i, long above, long below) {
            long claim = claims[i] * below;
            long sum = 0;
            int sets = 1 << size;
            for (int ahead = 0; ahead < sets; ahead++) {
                long left = above - together[ahead] * below;
                if ((ahead >> i & 1) == 0 && left > 0) {
                    int many = Integer.bitCount(ahead);
                    sum += Math.min(claim, left) * ORDERS[many] * ORDERS[size - 1 - many];
                }
            }
            return sum;
        }
    }

    /** Claimants, an estate and a rule: those of now, of the image, or of a trial. */
    private static final class Setup {
        final Group group = new Group();
        private final long[] losses = new long[MOST_CLAIMANTS];
        int estate = 0;
        int rule = 0;

        boolean isReady() {
            return group.size > 0 && estate <= group.all();
        }

        void copy(Setup other) {
            group.copy(other.group);
            estate = other.estate;
            rule = other.rule;
        }

        long fraction(int rule, int claimant, int part) {
            return inLowestTerms(group.gets(rule, claimant, estate, 1), group.scale(rule), part);
        }

        int whole(int rule, int claimant) {
            long below = group.scale(rule);
            return below < 1 ? 0 : (int) (group.gets(rule, claimant, estate, 1) / below);
        }

        int alike(int rule) {
            int bits = 0;
            for (int other = 0; other < RULES; other++) {
                if (areAlike(rule, other)) {
                    bits |= 1 << other;
                }
            }
            return bits;
        }

        private boolean areAlike(int rule, int other) {
            long scale = group.scale(rule);
            long otherScale = group.scale(other);
            for (int i = 0; i < group.size; i++) {
                long here = group.gets(rule, i, estate, 1) * otherScale;
                if (here != group.gets(other, i, estate, 1) * scale) {
                    return false;
                }
            }
            return true;
        }

        /** The claimant with k others ahead of it by what each loses. */
        int sorest(int rule, int k) {
            for (int i = 0; i < group.size; i++) {
                losses[i] = group.claims[i] * group.scale(rule) - group.gets(rule, i, estate, 1);
            }
            for (int i = 0; i < group.size; i++) {
                int ahead = 0;
                for (int j = 0; j < group.size; j++) {
                    ahead += isSorer(j, i) ? 1 : 0;
                }
                if (ahead == k) {
                    return i;
                }
            }
            return NONE;
        }

        private boolean isSorer(int i, int j) {
            if (losses[i] != losses[j]) {
                return losses[i] > losses[j];
            }
            if (group.claims[i] != group.claims[j]) {
                return group.claims[i] > group.claims[j];
            }
            return i < j;
        }

        void happen(int what, int n) {
            switch (what) {
                case 0:
                    if (group.has(n)) {
                        group.put(n, Math.min(MOST_CLAIM, group.claims[n] + 5));
                    }
                    break;
                case 1: group.put(n, 1); break;
                case 2: rule = n; break;
                default: estate = Math.min(MOST_ESTATE, estate + n); break;
            }
        }
    }

    /** Vessels of which each holds its claim, poured into drop by drop. */
    private static final class Vessels {
        final float[] amounts = new float[MOST_CLAIMANTS];
        private final float[] claims = new float[MOST_CLAIMANTS];
        private float greatest = 0.0f;
        private int size = 0;
        float spilled = 0.0f;

        void pour(Setup setup, int rule, int drops) {
            if (drops < 1) {
                return;
            }
            empty(setup.group);
            float drop = (float) setup.estate / (float) drops;
            for (int k = 0; k < drops; k++) {
                fall(lowest(rule), drop);
            }
        }

        private void empty(Group group) {
            size = group.size;
            spilled = 0.0f;
            greatest = 0.0f;
            for (int i = 0; i < size; i++) {
                amounts[i] = 0.0f;
                claims[i] = (float) group.claims[i];
                greatest = claims[i] > greatest ? claims[i] : greatest;
            }
        }

        private void fall(int i, float drop) {
            if (i < 0) {
                spilled = spilled + drop;
                return;
            }
            float sum = amounts[i] + drop;
            if (sum > claims[i]) {
                amounts[i] = claims[i];
                spilled = spilled + (sum - claims[i]);
            } else {
                amounts[i] = sum;
            }
        }

        private int lowest(int rule) {
            int lowest = -1;
            float least = 0.0f;
            for (int i = 0; i < size; i++) {
                if (amounts[i] < claims[i]) {
                    float surface = surface(rule, i);
                    if (lowest < 0 || surface < least) {
                        lowest = i;
                        least = surface;
                    }
                }
            }
            return lowest;
        }

        /** Asked of a vessel that isn't full alone: so its claim is above 0. */
        private float surface(int rule, int i) {
            float amount = amounts[i];
            switch (rule) {
                case EVEN: return amount;
                case LOSS: return amount - claims[i];
                case SHARE: return amount / claims[i];
                case TALMUD: return 2.0f * amount < claims[i] ? amount : greatest - (claims[i] - amount);
                default: return amount - claims[i] * 0.5f;
            }
        }
    }

    /** Rows of two numbers told by hand, up to a limit. */
    private static final class Rows {
        final int[] first;
        final int[] second;
        private final int most;
        int size = 0;

        Rows(int most) {
            this.most = most;
            first = new int[most];
            second = new int[most];
        }

        int add(int a, int b) {
            if (size >= most) {
                return FULL;
            }
            first[size] = a;
            second[size] = b;
            size++;
            return size;
        }

        void copy(Rows other) {
            size = 0;
            for (int k = 0; k < other.size; k++) {
                add(other.first[k], other.second[k]);
            }
        }
    }

    /** What undo goes back to. */
    private static final class Image {
        final Setup setup = new Setup();
        final Rows seen = new Rows(MOST_SEEN);
        final Rows events = new Rows(MOST_EVENTS);
        final Rows records = new Rows(MOST_BOOK);
        boolean taken = false;
    }

    /** Bytes, and the clauses that they were last parsed into. */
    private static final class Text {
        private static final int NO_FAULT = -1;

        final byte[] signs = new byte[MOST_BYTES];
        int length = 0;
        final int[] kinds = new int[MOST_CLAUSES];
        final int[] whos = new int[MOST_CLAUSES];
        final int[] values = new int[MOST_CLAUSES];
        int clauses = 0;
        private int place = 0;

        /** The fault's place; NO_FAULT: the clauses are there. */
        int parse() {
            place = 0;
            clauses = 0;
            for (int k = 0; k < MOST_CLAUSES; k++) {
                if (k > 0 && !takes(';')) {
                    return place;
                }
                if (!takesClause(k)) {
                    return place;
                }
                if (place >= length) {
                    clauses = k + 1;
                    return NO_FAULT;
                }
            }
            return place;
        }

        private boolean takes(int sign) {
            if (place >= length || signs[place] != sign) {
                return false;
            }
            place++;
            return true;
        }

        /** Leaves the place at the first byte that doesn't belong there. */
        private boolean takesClause(int k) {
            int kind = place < length ? signs[place] : 0;
            if (kind != 'c' && kind != 'n' && kind != 'e' && kind != 'r') {
                return false;
            }
            place++;
            int who = kind == 'n' ? number(1) : 0;
            if (who < 0) {
                return false;
            }
            int value = number(kind == 'r' ? 1 : kind == 'e' ? 3 : 2);
            if (value < 0) {
                return false;
            }
            kinds[k] = kind;
            whos[k] = who;
            values[k] = value;
            return true;
        }

        /** What 1 to most digits tell; -1: none stands there. */
        private int number(int most) {
            int value = -1;
            for (int k = 0; k < most && place < length; k++) {
                int digit = signs[place] - '0';
                if (digit < 0 || digit > 9) {
                    return value;
                }
                value = k == 0 ? digit : 10 * value + digit;
                place++;
            }
            return value;
        }
    }

    /** A row of items of one sort, kept as longs that are no wider than the sort; or nothing. */
    private static final class Tape {
        final long[] items = new long[MOST_ITEMS];
        int sort = NO_SORT;
        int length = 0;

        void become(int newSort, int newLength) {
            sort = newSort;
            length = newLength;
            Arrays.fill(items, 0L);
        }

        boolean has(int place) {
            return place >= 0 && place < length;
        }

        boolean hasAll(int place, int many) {
            // Asked by a difference, as a sum could pass the greatest int.
            return many >= 0 && place >= 0 && place <= length && many <= length - place;
        }

        long fitted(long v) {
            switch (sort) {
                case BYTES: return (byte) v;
                case SHORTS: return (short) v;
                case INTS: return (int) v;
                case LONGS: return v;
                default: return v != 0 ? 1 : 0;
            }
        }
    }
}
