import java.util.ArrayList;
import java.util.List;

/** Calls of the whole face with what is right, what is at an end, and what is beyond it. */
final class Calls {
    /** A call, made of an object. */
    interface Call {
        long of(EstateVessels x);
    }

    /** A call by its name; one that asks, whatever it answers, changes nothing. */
    static final class Named {
        final String name;
        final boolean asks;
        final Call call;

        Named(String name, boolean asks, Call call) {
            this.name = name;
            this.asks = asks;
            this.call = call;
        }
    }

    private static final int LEAST = Integer.MIN_VALUE, MOST = Integer.MAX_VALUE;
    private static final int[] CLAIMANTS = {LEAST, -2, -1, 0, 1, 2, 3, 5, 6, MOST};
    private static final int[] CLAIMS = {LEAST, -1, 0, 1, 10, 60, 61, MOST};
    private static final int[] RULES = {LEAST, -1, 0, 1, 2, 3, 4, 5, 6, MOST};
    private static final int[] SOME_RULES = {-1, 0, 3, 5, 6};
    private static final int[] ESTATES = {LEAST, -1, 0, 1, 30, 360, 361, MOST};
    private static final int[] DROPS = {LEAST, 0, 1, 7, 60, 61, MOST};
    private static final int[] PARTS = {-1, 0, 1, 2};
    private static final int[] WHATS = {LEAST, -1, 0, 1, 2, 3, 4, 5, MOST};
    private static final int[] SIGNS = {LEAST, -1, 0, ';', '1', 'c', 127, 128, MOST};
    private static final int[] TAPES = {LEAST, -1, 0, 1, 2, 3, 4, 5, 6, MOST};
    private static final int[] SORTS = {LEAST, -2, -1, 0, 3, 4, 5, MOST};
    private static final int[] PLACES = {LEAST, -1, 0, 1, 3, 59, 60, MOST};
    private static final int[] LENGTHS = {LEAST, -1, 0, 1, 3, 60, 61, MOST};

    private final List<Named> all = new ArrayList<>();

    /** All of them. */
    static List<Named> all() {
        Calls calls = new Calls();
        calls.claims();
        calls.awards();
        calls.changes();
        calls.vessels();
        calls.rows();
        calls.tapes();
        return calls.all;
    }

    private void add(boolean asks, Call call, String name, int... given) {
        StringBuilder told = new StringBuilder(name);
        for (int v : given) {
            told.append(' ').append(v);
        }
        all.add(new Named(told.toString(), asks, call));
    }

    private void ask(Call call, String name, int... given) {
        add(true, call, name, given);
    }

    private void tell(Call call, String name, int... given) {
        add(false, call, name, given);
    }

    private void claims() {
        for (int v : CLAIMS) {
            tell(x -> x.claim(v), "claim", v);
            for (int i : CLAIMANTS) {
                tell(x -> x.renew(i, v), "renew", i, v);
            }
        }
        for (int v : ESTATES) {
            tell(x -> x.estate(v), "estate", v);
        }
        for (int v : RULES) {
            tell(x -> x.rule(v), "rule", v);
        }
        for (int i : CLAIMANTS) {
            ask(x -> x.of(i), "of", i);
        }
        for (int what : WHATS) {
            ask(x -> x.told(what), "told", what);
            ask(x -> x.count(what), "count", what);
        }
        for (int sign : SIGNS) {
            tell(x -> x.feed(sign), "feed", sign);
        }
        tell(x -> x.undo(), "undo");
    }

    private void awards() {
        for (int r : RULES) {
            ask(x -> x.consistent(r), "consistent", r);
            ask(x -> x.like(r), "like", r);
            for (int i : CLAIMANTS) {
                ask(x -> x.cut(r, i), "cut", r, i);
                ask(x -> x.bends(r, i), "bends", r, i);
                ask(x -> x.sore(r, i), "sore", r, i);
                for (int p : PARTS) {
                    ask(x -> x.award(r, i, p), "award", r, i, p);
                    ask(x -> x.dual(r, i, p), "dual", r, i, p);
                    ask(x -> x.odds(r, i, p), "odds", r, i, p);
                }
            }
        }
    }

    private void changes() {
        for (int r : SOME_RULES) {
            for (int i : CLAIMANTS) {
                for (int v : CLAIMS) {
                    ask(x -> x.inverse(r, i, v), "inverse", r, i, v);
                    ask(x -> x.change(r, i, v, 0, 0), "change", r, i, v, 0, 0);
                    ask(x -> x.change(r, 0, v, i, 1), "change", r, 0, v, i, 1);
                }
                for (int j : CLAIMANTS) {
                    ask(x -> x.alone(r, i, j, 0), "alone", r, i, j, 0);
                }
                for (int p : PARTS) {
                    ask(x -> x.alone(r, 0, i, p), "alone", r, 0, i, p);
                    ask(x -> x.change(r, i, 7, i, p), "change", r, i, 7, i, p);
                }
            }
        }
    }

    private void vessels() {
        for (int r : RULES) {
            for (int n : DROPS) {
                for (int i : CLAIMANTS) {
                    ask(x -> x.poured(r, n, i), "poured", r, n, i);
                }
                for (int p : PARTS) {
                    ask(x -> x.gap(r, n, p), "gap", r, n, p);
                }
            }
        }
    }

    private void rows() {
        for (int i : CLAIMANTS) {
            for (int n : CLAIMS) {
                tell(x -> x.see(i, n), "see", i, n);
                tell(x -> x.book(i, n), "book", i, n);
            }
        }
        for (int what : WHATS) {
            for (int i : CLAIMANTS) {
                ask(x -> x.fits(i, what), "fits", i, what);
                tell(x -> x.event(what, i), "event", what, i);
            }
            for (int n : ESTATES) {
                tell(x -> x.event(what, n), "event", what, n);
            }
            ask(x -> x.after(what), "after", what);
            ask(x -> x.mean(what), "mean", what);
        }
        ask(x -> x.looked(), "looked");
    }

    private void tapes() {
        for (int t : TAPES) {
            for (int i : PLACES) {
                ask(x -> x.judge(t, i), "judge", t, i);
                ask(x -> x.peek(t, i), "peek", t, i);
                tell(x -> x.item(t, i, -3), "item", t, i);
                for (int n : LENGTHS) {
                    tell(x -> x.shift(t, i, 0, 1, n), "shift", t, i, 0, 1, n);
                    tell(x -> x.shift(0, 1, t, i, n), "shift", 0, 1, t, i, n);
                }
            }
            for (int other : TAPES) {
                tell(x -> x.shift(t, 0, other, 0, 1), "shift", t, 0, other, 0, 1);
            }
            for (int sort : SORTS) {
                for (int n : LENGTHS) {
                    tell(x -> x.tape(t, sort, n), "tape", t, sort, n);
                }
            }
        }
    }
}
