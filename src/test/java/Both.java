/** The class and the Reference: each call is made of both, and their answers are compared. */
final class Both {
    /** The document promises nothing behind so many calls. */
    static final int CALLS = 512;

    final EstateVessels x = new EstateVessels();
    final Reference y = new Reference();
    private final Checks checks;
    private final String name;
    private int calls = 0;

    Both(Checks checks, String name) {
        this.checks = checks;
        this.name = name;
    }

    static Both of(Checks checks, String name, int estate, int... claims) {
        Both both = new Both(checks, name);
        for (int claim : claims) {
            both.claim(claim);
        }
        both.estate(estate);
        return both;
    }

    /** How many calls more are promised. */
    int left() {
        return CALLS - calls;
    }

    private long due(String call, long got, long want, long... given) {
        calls++;
        checks.holds("at most 512 calls of an object in " + name, calls <= CALLS);
        if (got == want) {
            checks.due(call, got, want);
            return got;
        }
        StringBuilder told = new StringBuilder(name + ": " + call);
        for (long v : given) {
            told.append(' ').append(v);
        }
        checks.due(told.toString(), got, want);
        return got;
    }

    private int due(String call, int got, int want, long... given) {
        return (int) due(call, (long) got, (long) want, given);
    }

    int read(String text) {
        for (int k = 0; k < text.length(); k++) {
            feed(text.charAt(k));
        }
        return read();
    }

    // ---- the face

    int claim(int a) {
        return due("claim", x.claim(a), y.claim(a), a);
    }

    int renew(int a, int b) {
        return due("renew", x.renew(a, b), y.renew(a, b), a, b);
    }

    int estate(int a) {
        return due("estate", x.estate(a), y.estate(a), a);
    }

    int rule(int a) {
        return due("rule", x.rule(a), y.rule(a), a);
    }

    int of(int a) {
        return due("of", x.of(a), y.of(a), a);
    }

    int told(int a) {
        return due("told", x.told(a), y.told(a), a);
    }

    int feed(int a) {
        return due("feed", x.feed(a), y.feed(a), a);
    }

    int read() {
        return due("read", x.read(), y.read());
    }

    long award(int a, int b, int c) {
        return due("award", x.award(a, b, c), y.award(a, b, c), a, b, c);
    }

    int cut(int a, int b) {
        return due("cut", x.cut(a, b), y.cut(a, b), a, b);
    }

    long dual(int a, int b, int c) {
        return due("dual", x.dual(a, b, c), y.dual(a, b, c), a, b, c);
    }

    long alone(int a, int b, int c, int d) {
        return due("alone", x.alone(a, b, c, d), y.alone(a, b, c, d), a, b, c, d);
    }

    int consistent(int a) {
        return due("consistent", x.consistent(a), y.consistent(a), a);
    }

    long change(int a, int b, int c, int d, int e) {
        return due("change", x.change(a, b, c, d, e), y.change(a, b, c, d, e), a, b, c, d, e);
    }

    int inverse(int a, int b, int c) {
        return due("inverse", x.inverse(a, b, c), y.inverse(a, b, c), a, b, c);
    }

    int bends(int a, int b) {
        return due("bends", x.bends(a, b), y.bends(a, b), a, b);
    }

    int like(int a) {
        return due("like", x.like(a), y.like(a), a);
    }

    int sore(int a, int b) {
        return due("sore", x.sore(a, b), y.sore(a, b), a, b);
    }

    long poured(int a, int b, int c) {
        return due("poured", x.poured(a, b, c), y.poured(a, b, c), a, b, c);
    }

    long gap(int a, int b, int c) {
        return due("gap", x.gap(a, b, c), y.gap(a, b, c), a, b, c);
    }

    int see(int a, int b) {
        return due("see", x.see(a, b), y.see(a, b), a, b);
    }

    int fits(int a, int b) {
        return due("fits", x.fits(a, b), y.fits(a, b), a, b);
    }

    long odds(int a, int b, int c) {
        return due("odds", x.odds(a, b, c), y.odds(a, b, c), a, b, c);
    }

    long mean(int a) {
        return due("mean", x.mean(a), y.mean(a), a);
    }

    int event(int a, int b) {
        return due("event", x.event(a, b), y.event(a, b), a, b);
    }

    long after(int a) {
        return due("after", x.after(a), y.after(a), a);
    }

    int book(int a, int b) {
        return due("book", x.book(a, b), y.book(a, b), a, b);
    }

    int looked() {
        return due("looked", x.looked(), y.looked());
    }

    int judge(int a, int b) {
        return due("judge", x.judge(a, b), y.judge(a, b), a, b);
    }

    int image() {
        return due("image", x.image(), y.image());
    }

    int undo() {
        return due("undo", x.undo(), y.undo());
    }

    int count(int a) {
        return due("count", x.count(a), y.count(a), a);
    }

    int tape(int a, int b, int c) {
        return due("tape", x.tape(a, b, c), y.tape(a, b, c), a, b, c);
    }

    int item(int a, int b, long c) {
        return due("item", x.item(a, b, c), y.item(a, b, c), a, b, c);
    }

    long peek(int a, int b) {
        return due("peek", x.peek(a, b), y.peek(a, b), a, b);
    }

    int shift(int a, int b, int c, int d, int e) {
        return due("shift", x.shift(a, b, c, d, e), y.shift(a, b, c, d, e), a, b, c, d, e);
    }
}
