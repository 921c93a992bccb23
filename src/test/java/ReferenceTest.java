/** Long runs of calls, the same each time, answered by the class and by the Reference alike. */
public final class ReferenceTest {
    private static final int RUNS = 600;
    private static final int CALLS = 512;
    private static final String[] SETUPS = {
        "c12;c30;c5;e20;r3", "c5;c5;c5;e7;r5", "c60;c60;c60;c60;c60;c60;e360;r4", "c1;c2;c3;c4;c5;c6;e10;r1",
        "n05;n17;e9", "n1", "c", "e12345", "c1;c2;c3;c4;c5;c6;n01;n11;n21;n31;n41;n51", "r9;r5;c00;c61;e999;n99",
        "c1;c1;c1;c1;c1;c1;c1;c1;c1;c1;c1;c1;c1", "e0", "r", "c123", "n123;", ";", "c1;;", "c 1", "e1e", "c1,c2", "n0"};

    private final Checks checks;
    private long state;
    private EstateVessels x;
    private Reference y;

    private ReferenceTest(Checks checks, long seed) {
        this.checks = checks;
        state = seed * 0x9E3779B97F4A7C15L + 1;
    }

    public static void main(String[] args) {
        Checks checks = new Checks();
        for (int run = 0; run < RUNS && checks.wrong() == 0; run++) {
            new ReferenceTest(checks, run).play(run);
        }
        checks.finish("ReferenceTest");
    }

    private int below(int bound) {
        state = state * 6364136223846793005L + 1442695040888963407L;
        return (int) ((state >>> 33) % bound);
    }

    private int from(int least, int most) {
        return least + below(most - least + 1);
    }

    /** Mostly within, at times just beyond, at times far off. */
    private int near(int least, int most) {
        int kind = below(60);
        if (kind == 0) {
            return below(2) == 0 ? Integer.MIN_VALUE : Integer.MAX_VALUE;
        }
        if (kind < 4) {
            return below(2) == 0 ? least - 1 : most + 1;
        }
        return kind < 8 ? (below(2) == 0 ? least : most) : from(least, most);
    }

    private int claimant() {
        return near(0, Math.max(0, y.told(0) - 1));
    }

    private int rule() {
        return near(0, 5);
    }

    private int part() {
        return near(0, 1);
    }

    /** An estate about what all claim, so that the set-up is often ready. */
    private int estateAbout() {
        return below(12) == 0 ? near(0, 360) : Math.min(360, from(0, Math.max(1, y.told(1))));
    }

    private void play(int run) {
        x = new EstateVessels();
        y = new Reference();
        int claimants = below(8);
        int most = below(3) == 0 ? 10 : 60;
        int calls = 0;
        for (int k = 0; k < claimants; k++, calls++) {
            int claim = from(1, most);
            due(run, "claim", x.claim(claim), y.claim(claim), claim);
        }
        int estate = estateAbout();
        due(run, "estate", x.estate(estate), y.estate(estate), estate);
        for (calls++; calls < CALLS && checks.wrong() == 0; calls++) {
            call(run);
        }
    }

    private void due(int run, String name, long got, long want, long... given) {
        if (got != want) {
            StringBuilder call = new StringBuilder("run " + run + ": " + name);
            for (long v : given) {
                call.append(' ').append(v);
            }
            checks.due(call.toString(), got, want);
        } else {
            checks.due(name, got, want);
        }
    }

    private void call(int run) {
        int kind = below(46);
        if (kind < 14) {
            change(run, kind);
        } else if (kind < 30) {
            ask(run, kind);
        } else {
            tell(run, kind);
        }
    }

    private void change(int run, int kind) {
        int a = 0;
        int b = 0;
        switch (kind) {
            case 0:
                a = below(10) == 0 ? near(1, 60) : 61;
                due(run, "claim", x.claim(a), y.claim(a), a);
                break;
            case 1: case 2:
                a = claimant();
                b = near(1, 60);
                due(run, "renew", x.renew(a, b), y.renew(a, b), a, b);
                break;
            case 3: case 4: case 5:
                a = estateAbout();
                due(run, "estate", x.estate(a), y.estate(a), a);
                break;
            case 6:
                a = rule();
                due(run, "rule", x.rule(a), y.rule(a), a);
                break;
            case 7:
                a = claimant();
                due(run, "of", x.of(a), y.of(a), a);
                break;
            case 8:
                a = near(0, 4);
                due(run, "told", x.told(a), y.told(a), a);
                break;
            case 9:
                a = near(0, 127);
                due(run, "feed", x.feed(a), y.feed(a), a);
                break;
            case 10:
                due(run, "read", x.read(), y.read());
                break;
            case 11: case 12:
                if (below(6) == 0) {
                    read(run, SETUPS[below(SETUPS.length)]);
                }
                break;
            default:
                if (below(2) == 0) {
                    due(run, "image", x.image(), y.image());
                } else {
                    due(run, "undo", x.undo(), y.undo());
                }
                break;
        }
    }

    private void read(int run, String text) {
        for (int k = 0; k < text.length(); k++) {
            due(run, "feed", x.feed(text.charAt(k)), y.feed(text.charAt(k)), text.charAt(k));
        }
        due(run, "read", x.read(), y.read());
    }

    private void ask(int run, int kind) {
        int r = rule();
        int i = claimant();
        int p = part();
        int j = claimant();
        int v = 0;
        switch (kind) {
            case 14: due(run, "award", x.award(r, i, p), y.award(r, i, p), r, i, p); break;
            case 15: due(run, "cut", x.cut(r, i), y.cut(r, i), r, i); break;
            case 16: due(run, "dual", x.dual(r, i, p), y.dual(r, i, p), r, i, p); break;
            case 17: due(run, "alone", x.alone(r, i, j, p), y.alone(r, i, j, p), r, i, j, p); break;
            case 18: due(run, "consistent", x.consistent(r), y.consistent(r), r); break;
            case 19:
                v = near(1, 60);
                due(run, "change", x.change(r, i, v, j, p), y.change(r, i, v, j, p), r, i, v, j, p);
                break;
            case 20:
                v = below(20) == 0 ? near(0, 60) : from(-1, 3);
                due(run, "inverse", x.inverse(r, i, v), y.inverse(r, i, v), r, i, v);
                break;
            case 21:
                if (below(8) == 0) {
                    due(run, "bends", x.bends(r, i), y.bends(r, i), r, i);
                }
                break;
            case 22: due(run, "like", x.like(r), y.like(r), r); break;
            case 23: due(run, "sore", x.sore(r, i), y.sore(r, i), r, i); break;
            case 24: case 25:
                v = near(1, 60);
                i = below(3) == 0 ? -1 : i;
                due(run, "poured", x.poured(r, v, i), y.poured(r, v, i), r, v, i);
                break;
            case 26:
                v = near(1, 60);
                due(run, "gap", x.gap(r, v, p), y.gap(r, v, p), r, v, p);
                break;
            case 27: due(run, "fits", x.fits(i, p), y.fits(i, p), i, p); break;
            case 28:
                if (below(8) == 0) {
                    due(run, "odds", x.odds(r, i, p), y.odds(r, i, p), r, i, p);
                }
                break;
            default: due(run, "mean", x.mean(p), y.mean(p), p); break;
        }
    }

    /** Often what is so, that what is looked at goes on behind it. */
    private int cutOrOther(int claimant) {
        int cut = y.cut(y.told(3), claimant);
        return cut >= 0 && below(5) != 0 ? cut : near(0, 60);
    }

    private void tell(int run, int kind) {
        int i = below(25) == 0 ? -1 : claimant();
        int t = below(12) == 0 ? near(0, 5) : below(3);
        switch (kind) {
            case 30: case 31: {
                int n = cutOrOther(i);
                due(run, "see", x.see(i, n), y.see(i, n), i, n);
                break;
            }
            case 32: case 33: {
                int what = below(25) == 0 ? -1 : near(0, 3);
                int n = what == 3 ? near(0, below(5) == 0 ? 360 : 10) : near(0, 5);
                due(run, "event", x.event(what, n), y.event(what, n), what, n);
                break;
            }
            case 34: case 35: {
                int what = near(0, 2);
                due(run, "after", x.after(what), y.after(what), what);
                break;
            }
            case 36: case 37: {
                int n = cutOrOther(i);
                due(run, "book", x.book(i, n), y.book(i, n), i, n);
                break;
            }
            case 38: due(run, "looked", x.looked(), y.looked()); break;
            case 39: {
                int place = near(0, 4);
                due(run, "judge", x.judge(t, place), y.judge(t, place), t, place);
                break;
            }
            case 40: {
                int what = near(0, 3);
                due(run, "count", x.count(what), y.count(what), what);
                break;
            }
            default: tapes(run, kind, t); break;
        }
    }

    private void tapes(int run, int kind, int t) {
        int place = near(0, 9);
        switch (kind) {
            case 41: {
                int sort = below(2) == 0 ? 3 : near(-1, 4);
                int n = below(4) == 0 ? near(0, 60) : near(0, 9);
                due(run, "tape", x.tape(t, sort, n), y.tape(t, sort, n), t, sort, n);
                break;
            }
            case 42: {
                long v = below(3) == 0 ? below(400) - 200 : (long) below(Integer.MAX_VALUE) << below(33);
                due(run, "item", x.item(t, place, v), y.item(t, place, v), t, place, v);
                break;
            }
            case 43: {
                // A row of longs told as the cuts are.
                for (int k = 0; k < y.told(0) && below(6) != 0; k++) {
                    int v = Math.max(0, y.cut(y.told(3), k));
                    due(run, "item", x.item(t, place + k, v), y.item(t, place + k, v), t, place + k, v);
                }
                due(run, "judge", x.judge(t, place), y.judge(t, place), t, place);
                break;
            }
            case 44: due(run, "peek", x.peek(t, place), y.peek(t, place), t, place); break;
            default: {
                int other = below(3);
                int j = near(0, 9);
                int n = near(0, 6);
                due(run, "shift", x.shift(t, place, other, j, n), y.shift(t, place, other, j, n), t, place, other, j, n);
                break;
            }
        }
    }
}
