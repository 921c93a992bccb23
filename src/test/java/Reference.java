/**
 * The document done over in another way, to compare with: levels are looked for among all that can be,
 * orders of arrival are gone through one by one, bits are the library's, tapes are arrays of their sorts.
 */
final class Reference {
    private static final long NO = Long.MIN_VALUE;

    private int[] claims = {};
    private int estate = 0;
    private int rule = 0;
    private java.util.List<int[]> seen = new java.util.ArrayList<>();
    private java.util.List<int[]> events = new java.util.ArrayList<>();
    private java.util.List<int[]> book = new java.util.ArrayList<>();
    private String text = "";
    private final Object[] tapes = new Object[6];
    private Reference kept = null;

    // ---- fractions: {above, below}, in lowest terms

    private static long[] fraction(long above, long below) {
        long a = Math.abs(above);
        long b = below;
        while (b != 0) {
            long rest = a % b;
            a = b;
            b = rest;
        }
        return new long[] {above / a, below / a};
    }

    private static long[] plus(long[] x, long[] y) {
        return fraction(Math.addExact(Math.multiplyExact(x[0], y[1]), Math.multiplyExact(y[0], x[1])),
                Math.multiplyExact(x[1], y[1]));
    }

    private static long[] times(long[] x, long above, long below) {
        return fraction(Math.multiplyExact(x[0], above), Math.multiplyExact(x[1], below));
    }

    private static long[] minus(long[] x, long[] y) {
        return plus(x, times(y, -1, 1));
    }

    private static int compare(long[] x, long[] y) {
        return Long.signum(minus(x, y)[0]);
    }

    private static long[] whole(long v) {
        return new long[] {v, 1};
    }

    private static long[] least(long[] x, long[] y) {
        return compare(x, y) <= 0 ? x : y;
    }

    // ---- rules

    private static long[] sum(long[][] row) {
        long[] sum = whole(0);
        for (long[] x : row) {
            sum = plus(sum, x);
        }
        return sum;
    }

    /** Each the lesser of its claim and a level: the level is one at which some pay their claim, the rest the level. */
    private static long[][] even(long[][] claims, long[] estate) {
        for (int paid = 0; paid < 1 << claims.length; paid++) {
            int open = claims.length - Integer.bitCount(paid);
            long[] left = estate;
            for (int i = 0; i < claims.length; i++) {
                left = (paid >> i & 1) == 1 ? minus(left, claims[i]) : left;
            }
            long[] level = open == 0 ? whole(1000) : times(left, 1, open);
            long[][] gets = new long[claims.length][];
            for (int i = 0; i < claims.length; i++) {
                gets[i] = least(claims[i], level);
            }
            if (level[0] >= 0 && compare(sum(gets), estate) == 0) {
                return gets;
            }
        }
        throw new IllegalStateException("no level");
    }

    private static long[][] loss(long[][] claims, long[] estate) {
        for (int some = 0; some < 1 << claims.length; some++) {
            int many = Integer.bitCount(some);
            long[] over = times(estate, -1, 1);
            for (int i = 0; i < claims.length; i++) {
                over = (some >> i & 1) == 1 ? plus(over, claims[i]) : over;
            }
            long[] level = many == 0 ? whole(1000) : times(over, 1, many);
            long[][] gets = new long[claims.length][];
            for (int i = 0; i < claims.length; i++) {
                long[] left = minus(claims[i], level);
                gets[i] = left[0] < 0 ? whole(0) : left;
            }
            if (compare(sum(gets), estate) == 0) {
                return gets;
            }
        }
        throw new IllegalStateException("no level");
    }

    private static long[][] less(long[][] row, long[][] other) {
        long[][] result = new long[row.length][];
        for (int i = 0; i < row.length; i++) {
            result[i] = minus(row[i], other[i]);
        }
        return result;
    }

    private static long[][] awards(int rule, int[] of, long[] estate) {
        long[][] full = new long[of.length][];
        long[][] halves = new long[of.length][];
        for (int i = 0; i < of.length; i++) {
            full[i] = whole(of[i]);
            halves[i] = fraction(of[i], 2);
        }
        long[] all = sum(full);
        boolean lower = compare(times(estate, 2, 1), all) <= 0;
        switch (rule) {
            case 0: return even(full, estate);
            case 1: return loss(full, estate);
            case 2:
                long[][] shares = new long[of.length][];
                for (int i = 0; i < of.length; i++) {
                    shares[i] = times(estate, of[i], all[0]);
                }
                return shares;
            case 3: return lower ? even(halves, estate) : less(full, even(halves, minus(all, estate)));
            case 4:
                if (lower) {
                    return loss(halves, estate);
                }
                long[][] more = even(halves, minus(estate, times(all, 1, 2)));
                for (int i = 0; i < of.length; i++) {
                    more[i] = plus(halves[i], more[i]);
                }
                return more;
            default: return arrival(of, estate);
        }
    }

    private static long[][] arrival(int[] of, long[] estate) {
        long[] sums = new long[of.length];
        int orders = arrive(of, estate, sums, 0, estate[0]);
        long[][] gets = new long[of.length][];
        for (int i = 0; i < of.length; i++) {
            gets[i] = fraction(sums[i], orders * estate[1]);
        }
        return gets;
    }

    /** Goes on with each that hasn't come; sums are in parts of the estate's below. */
    private static int arrive(int[] of, long[] estate, long[] sums, int come, long left) {
        if (come == (1 << of.length) - 1) {
            return 1;
        }
        int orders = 0;
        for (int i = 0; i < of.length; i++) {
            if ((come >> i & 1) == 0) {
                long takes = Math.min(left, of[i] * estate[1]);
                int behind = arrive(of, estate, sums, come | 1 << i, left - takes);
                sums[i] += takes * behind;
                orders += behind;
            }
        }
        return orders;
    }

    private long[][] now(int rule) {
        return awards(rule, claims, whole(estate));
    }

    // ---- the face

    private int all() {
        int all = 0;
        for (int c : claims) {
            all += c;
        }
        return all;
    }

    private boolean ready() {
        return claims.length > 0 && estate <= all();
    }

    private boolean is(int claimant) {
        return claimant >= 0 && claimant < claims.length;
    }

    private static boolean within(int v, int least, int most) {
        return v >= least && v <= most;
    }

    int claim(int v) {
        if (!within(v, 1, 60)) {
            return -2;
        }
        if (claims.length == 6) {
            return -4;
        }
        claims = java.util.Arrays.copyOf(claims, claims.length + 1);
        claims[claims.length - 1] = v;
        return claims.length - 1;
    }

    int renew(int claimant, int v) {
        if (!is(claimant)) {
            return -1;
        }
        if (!within(v, 1, 60)) {
            return -2;
        }
        int was = claims[claimant];
        claims = claims.clone();
        claims[claimant] = v;
        return was;
    }

    int estate(int v) {
        if (!within(v, 0, 360)) {
            return -2;
        }
        int was = estate;
        estate = v;
        return was;
    }

    int rule(int v) {
        if (!within(v, 0, 5)) {
            return -2;
        }
        int was = rule;
        rule = v;
        return was;
    }

    int of(int claimant) {
        return is(claimant) ? claims[claimant] : -1;
    }

    int told(int what) {
        int[] all = {claims.length, all(), estate, rule, ready() ? 1 : 0};
        return within(what, 0, 4) ? all[what] : -1;
    }

    int feed(int sign) {
        if (!within(sign, 0, 127)) {
            return -2;
        }
        if (text.length() == 100) {
            return -4;
        }
        text += (char) sign;
        return text.length();
    }

    private static final String CLAUSE = "(c\\d{1,2}|n\\d\\d{1,2}|e\\d{1,3}|r\\d)";
    private static final java.util.regex.Pattern SETUP =
            java.util.regex.Pattern.compile(CLAUSE + "(;" + CLAUSE + "){0,11}");

    /** Whether some set-up begins so. */
    private static boolean begins(String start) {
        if (start.isEmpty()) {
            return true;
        }
        for (String rest : new String[] {"", "0", "00", "c0"}) {
            if (SETUP.matcher(start + rest).matches()) {
                return true;
            }
        }
        return false;
    }

    int read() {
        String given = text;
        text = "";
        if (!SETUP.matcher(given).matches()) {
            int place = 0;
            while (place < given.length() && begins(given.substring(0, place + 1))) {
                place++;
            }
            return -10 - place;
        }
        int done = 0;
        for (String clause : given.split(";")) {
            String rest = clause.substring(1);
            int answer;
            switch (clause.charAt(0)) {
                case 'c': answer = claim(Integer.parseInt(rest)); break;
                case 'n': answer = renew(rest.charAt(0) - '0', Integer.parseInt(rest.substring(1))); break;
                case 'e': answer = estate(Integer.parseInt(rest)); break;
                default: answer = rule(Integer.parseInt(rest)); break;
            }
            done += answer < 0 ? 0 : 1;
        }
        return done;
    }

    private static boolean part(int part) {
        return within(part, 0, 1);
    }

    long award(int rule, int claimant, int part) {
        boolean fine = within(rule, 0, 5) && is(claimant) && part(part) && ready();
        return fine ? now(rule)[claimant][part] : NO;
    }

    private int cutOf(int rule, int claimant) {
        long[] award = now(rule)[claimant];
        return (int) (award[0] / award[1]);
    }

    int cut(int rule, int claimant) {
        if (!within(rule, 0, 5)) {
            return -2;
        }
        if (!is(claimant)) {
            return -1;
        }
        return ready() ? cutOf(rule, claimant) : -3;
    }

    long dual(int rule, int claimant, int part) {
        if (!within(rule, 0, 5) || !is(claimant) || !part(part) || !ready()) {
            return NO;
        }
        return minus(whole(claims[claimant]), awards(rule, claims, whole(all() - estate))[claimant])[part];
    }

    private long[] aloneOf(int rule, int i, int j) {
        long[][] now = now(rule);
        return awards(rule, new int[] {claims[i], claims[j]}, plus(now[i], now[j]))[0];
    }

    long alone(int rule, int i, int j, int part) {
        boolean fine = within(rule, 0, 5) && is(i) && is(j) && i != j && part(part) && ready();
        return fine ? aloneOf(rule, i, j)[part] : NO;
    }

    int consistent(int rule) {
        if (!within(rule, 0, 5)) {
            return -2;
        }
        if (!ready()) {
            return -3;
        }
        for (int i = 0; i < claims.length; i++) {
            for (int j = i + 1; j < claims.length; j++) {
                if (compare(aloneOf(rule, i, j), now(rule)[i]) != 0) {
                    return 10 * i + j;
                }
            }
        }
        return -5;
    }

    long change(int rule, int i, int v, int j, int part) {
        if (!within(rule, 0, 5) || !is(i) || !within(v, 1, 60) || !is(j) || !part(part) || !ready()) {
            return NO;
        }
        Reference then = copy();
        then.renew(i, v);
        return then.ready() ? minus(then.now(rule)[j], now(rule)[j])[part] : NO;
    }

    int inverse(int rule, int claimant, int v) {
        if (!within(rule, 0, 5)) {
            return -2;
        }
        if (!is(claimant)) {
            return -1;
        }
        if (!within(v, 0, 60)) {
            return -2;
        }
        for (int e = 0; e <= all(); e++) {
            if (compare(awards(rule, claims, whole(e))[claimant], whole(v)) >= 0) {
                return e;
            }
        }
        return -5;
    }

    int bends(int rule, int claimant) {
        if (!within(rule, 0, 5)) {
            return -2;
        }
        if (!is(claimant)) {
            return -1;
        }
        long[][] path = new long[all() + 1][];
        for (int e = 0; e <= all(); e++) {
            path[e] = awards(rule, claims, whole(e))[claimant];
        }
        int bends = 0;
        for (int e = 1; e <= all() - 1; e++) {
            bends += compare(minus(path[e + 1], path[e]), minus(path[e], path[e - 1])) != 0 ? 1 : 0;
        }
        return bends;
    }

    int like(int rule) {
        if (!within(rule, 0, 5)) {
            return -2;
        }
        if (!ready()) {
            return -3;
        }
        int bits = 0;
        for (int other = 0; other < 6; other++) {
            bits += java.util.Arrays.deepEquals(now(rule), now(other)) ? 1 << other : 0;
        }
        return bits;
    }

    int sore(int rule, int k) {
        if (!within(rule, 0, 5)) {
            return -2;
        }
        if (!is(k)) {
            return -1;
        }
        if (!ready()) {
            return -3;
        }
        long[][] now = now(rule);
        java.util.List<Integer> order = new java.util.ArrayList<>();
        for (int i = 0; i < claims.length; i++) {
            order.add(i);
        }
        order.sort((x, y) -> {
            int byLoss = compare(minus(whole(claims[y]), now[y]), minus(whole(claims[x]), now[x]));
            return byLoss != 0 ? byLoss : claims[y] - claims[x];
        });
        return order.get(k);
    }

    private float[] pour(int rule, int n) {
        int many = claims.length;
        float[] amounts = new float[many + 1];
        float drop = (float) estate / (float) n;
        float most = 0;
        for (int c : claims) {
            most = Math.max(most, c);
        }
        for (int d = 0; d < n; d++) {
            int best = many;
            float least = Float.POSITIVE_INFINITY;
            for (int i = 0; i < many; i++) {
                float a = amounts[i];
                float c = claims[i];
                float[] surfaces = {a, a - c, a / c, 2.0f * a < c ? a : most - (c - a), a - c * 0.5f};
                if (a < c && surfaces[rule] < least) {
                    least = surfaces[rule];
                    best = i;
                }
            }
            float sum = amounts[best] + drop;
            boolean over = best < many && sum > claims[best];
            amounts[best] = over ? claims[best] : sum;
            if (over) {
                amounts[many] += sum - claims[best];
            }
        }
        return amounts;
    }

    long poured(int rule, int n, int claimant) {
        if (!within(rule, 0, 4) || !within(n, 1, 60) || !(claimant == -1 || is(claimant)) || !ready()) {
            return NO;
        }
        return Float.floatToIntBits(pour(rule, n)[claimant == -1 ? claims.length : claimant]);
    }

    long gap(int rule, int n, int part) {
        if (!within(rule, 0, 4) || !within(n, 1, 60) || !part(part) || !ready()) {
            return NO;
        }
        float[] amounts = pour(rule, n);
        long[][] now = now(rule);
        double gap = 0;
        for (int i = 0; i < claims.length; i++) {
            gap = Math.max(gap, Math.abs((double) amounts[i] - (double) now[i][0] / (double) now[i][1]));
        }
        long bits = Double.doubleToLongBits(gap);
        return part == 0 ? bits >>> 32 : bits & 0xFFFFFFFFL;
    }

    int see(int claimant, int n) {
        return tell(seen, claimant, n, 5);
    }

    private int tell(java.util.List<int[]> rows, int claimant, int n, int most) {
        if (claimant == -1) {
            rows.clear();
            return 0;
        }
        if (!is(claimant)) {
            return -1;
        }
        if (!within(n, 0, 60)) {
            return -2;
        }
        if (rows.size() == most) {
            return -4;
        }
        rows.add(new int[] {claimant, n});
        return rows.size();
    }

    int fits(int claimant, int what) {
        if (!is(claimant) || !part(what)) {
            return -1;
        }
        int many = 0;
        int least = -5;
        for (int v = 30; v >= 1; v--) {
            Reference then = copy();
            then.renew(claimant, v);
            boolean fits = then.ready();
            for (int[] row : seen) {
                fits = fits && then.cutOf(rule, row[0]) == row[1];
            }
            many += fits ? 1 : 0;
            least = fits ? v : least;
        }
        return what == 0 ? many : least;
    }

    long odds(int rule, int claimant, int part) {
        if (!within(rule, 0, 5) || !is(claimant) || !part(part)) {
            return NO;
        }
        int enough = 0;
        for (int e = 0; e <= all(); e++) {
            enough += compare(awards(rule, claims, whole(e))[claimant], fraction(claims[claimant], 2)) >= 0 ? 1 : 0;
        }
        return fraction(enough, all() + 1)[part];
    }

    long mean(int part) {
        return part(part) && claims.length > 0 ? fraction(estate, claims.length)[part] : NO;
    }

    int event(int what, int n) {
        if (what == -1) {
            events.clear();
            return 0;
        }
        if (!within(what, 0, 3) || (what <= 1 && !is(n))) {
            return -1;
        }
        if ((what == 2 && !within(n, 0, 5)) || (what == 3 && !within(n, 0, 360))) {
            return -2;
        }
        if (events.size() == 8) {
            return -4;
        }
        events.add(new int[] {what, n});
        return events.size();
    }

    long after(int what) {
        Reference then = copy();
        for (int[] row : events) {
            switch (row[0]) {
                case 0: then.renew(row[1], Math.min(60, then.claims[row[1]] + 5)); break;
                case 1: then.renew(row[1], 1); break;
                case 2: then.rule = row[1]; break;
                default: then.estate = Math.min(360, then.estate + row[1]); break;
            }
        }
        if (!within(what, 0, 2) || !then.ready()) {
            return NO;
        }
        return what == 2 ? then.like(then.rule) : then.award(then.rule, 0, what);
    }

    int book(int claimant, int n) {
        return tell(book, claimant, n, 8);
    }

    int looked() {
        if (!ready()) {
            return -3;
        }
        for (int k = 0; k < book.size(); k++) {
            if (cutOf(rule, book.get(k)[0]) != book.get(k)[1]) {
                return k;
            }
        }
        return -5;
    }

    private static final Class<?>[] SORTS = {byte.class, short.class, int.class, long.class, boolean.class};

    private static boolean tape(int tape) {
        return within(tape, 0, 5);
    }

    int judge(int tape, int i) {
        if (!tape(tape)) {
            return -1;
        }
        if (!ready()) {
            return -3;
        }
        if (tapes[tape] == null) {
            return 100;
        }
        if (!(tapes[tape] instanceof long[])) {
            return -12;
        }
        long[] row = (long[]) tapes[tape];
        for (int k = 0; k < claims.length; k++) {
            if (i < 0 || (long) i + k >= row.length) {
                return 100 + k;
            }
            if (row[i + k] != cutOf(rule, k)) {
                return k;
            }
        }
        return -5;
    }

    private Reference copy() {
        Reference copy = new Reference();
        copy.take(this);
        return copy;
    }

    private void take(Reference other) {
        claims = other.claims;
        estate = other.estate;
        rule = other.rule;
        seen = new java.util.ArrayList<>(other.seen);
        events = new java.util.ArrayList<>(other.events);
        book = new java.util.ArrayList<>(other.book);
    }

    int image() {
        kept = copy();
        return claims.length;
    }

    int undo() {
        if (kept == null) {
            return -3;
        }
        take(kept);
        return claims.length;
    }

    int count(int what) {
        int[] all = {seen.size(), events.size(), book.size(), text.length()};
        return within(what, 0, 3) ? all[what] : -2;
    }

    int tape(int tape, int sort, int n) {
        if (!tape(tape)) {
            return -1;
        }
        if (sort == -1) {
            tapes[tape] = null;
            return 1;
        }
        if (!within(sort, 0, 4) || n > 60) {
            return -2;
        }
        if (n < 0) {
            return -14;
        }
        tapes[tape] = java.lang.reflect.Array.newInstance(SORTS[sort], n);
        return 1;
    }

    int item(int tape, int i, long v) {
        if (!tape(tape)) {
            return -1;
        }
        Object row = tapes[tape];
        if (row == null) {
            return -11;
        }
        if (!within(i, 0, java.lang.reflect.Array.getLength(row) - 1)) {
            return -13;
        }
        if (row instanceof byte[]) {
            ((byte[]) row)[i] = (byte) v;
        } else if (row instanceof short[]) {
            ((short[]) row)[i] = (short) v;
        } else if (row instanceof int[]) {
            ((int[]) row)[i] = (int) v;
        } else if (row instanceof long[]) {
            ((long[]) row)[i] = v;
        } else {
            ((boolean[]) row)[i] = v != 0;
        }
        return 1;
    }

    long peek(int tape, int i) {
        if (!tape(tape) || tapes[tape] == null || !within(i, 0, java.lang.reflect.Array.getLength(tapes[tape]) - 1)) {
            return NO;
        }
        Object row = tapes[tape];
        return row instanceof boolean[] ? (((boolean[]) row)[i] ? 1 : 0) : java.lang.reflect.Array.getLong(row, i);
    }

    int shift(int tape, int i, int other, int j, int n) {
        if (!tape(tape) || !tape(other)) {
            return -1;
        }
        if (tapes[tape] == null || tapes[other] == null) {
            return -11;
        }
        if (tapes[tape].getClass() != tapes[other].getClass()) {
            return -12;
        }
        try {
            System.arraycopy(tapes[tape], i, tapes[other], j, n);
        } catch (IndexOutOfBoundsException beyond) {
            return -13;
        }
        return n;
    }
}
