/** Long runs of calls, the same each time, answered by the class and by the Reference alike. */
public final class ReferenceTest {
    private static final int RUNS = 600;
    private static final String[] SETUPS = {
        "c12;c30;c5;e20;r3", "c5;c5;c5;e7;r5", "c60;c60;c60;c60;c60;c60;e360;r4", "c1;c2;c3;c4;c5;c6;e10;r1",
        "n05;n17;e9", "n1", "c", "e12345", "c1;c2;c3;c4;c5;c6;n01;n11;n21;n31;n41;n51", "r9;r5;c00;c61;e999;n99",
        "c1;c1;c1;c1;c1;c1;c1;c1;c1;c1;c1;c1;c1", "e0", "r", "c123", "n123;", ";", "c1;;", "c 1", "e1e", "c1,c2", "n0"};

    private final Checks checks;
    private long state;
    private Both both;
    private Reference y;

    private ReferenceTest(Checks checks, long seed) {
        this.checks = checks;
        state = seed * 0x9E3779B97F4A7C15L + 1;
    }

    public static void main(String[] args) {
        Checks checks = new Checks();
        for (int run = 0; run < RUNS && checks.wrong() == 0; run++) {
            new ReferenceTest(checks, run).play(run);
        }
        checks.finish("ReferenceTest");
    }

    private int below(int bound) {
        state = state * 6364136223846793005L + 1442695040888963407L;
        return (int) ((state >>> 33) % bound);
    }

    private int from(int least, int most) {
        return least + below(most - least + 1);
    }

    /** Mostly within, at times just beyond, at times far off. */
    private int near(int least, int most) {
        int kind = below(60);
        if (kind == 0) {
            return below(2) == 0 ? Integer.MIN_VALUE : Integer.MAX_VALUE;
        }
        if (kind < 4) {
            return below(2) == 0 ? least - 1 : most + 1;
        }
        return kind < 8 ? (below(2) == 0 ? least : most) : from(least, most);
    }

    private int claimant() {
        return near(0, Math.max(0, y.told(0) - 1));
    }

    private int rule() {
        return near(0, 5);
    }

    private int part() {
        return near(0, 1);
    }

    /** An estate about what all claim, so that the set-up is often ready. */
    private int estateAbout() {
        return below(12) == 0 ? near(0, 360) : Math.min(360, from(0, Math.max(1, y.told(1))));
    }

    private void play(int run) {
        both = new Both(checks, "run " + run);
        y = both.y;
        int claimants = below(8);
        int most = below(3) == 0 ? 10 : 60;
        for (int k = 0; k < claimants; k++) {
            both.claim(from(1, most));
        }
        both.estate(estateAbout());
        for (int k = 0; k < Both.CALLS && both.left() > 0 && checks.wrong() == 0; k++) {
            call();
        }
    }

    private void call() {
        int kind = below(46);
        if (kind < 14) {
            change(kind);
        } else if (kind < 30) {
            ask(kind);
        } else {
            tell(kind);
        }
    }

    private void change(int kind) {
        switch (kind) {
            case 0: both.claim(below(10) == 0 ? near(1, 60) : 61); break;
            case 1: case 2: both.renew(claimant(), near(1, 60)); break;
            case 3: case 4: case 5: both.estate(estateAbout()); break;
            case 6: both.rule(rule()); break;
            case 7: both.of(claimant()); break;
            case 8: both.told(near(0, 4)); break;
            case 9: both.feed(near(0, 127)); break;
            case 10: both.read(); break;
            case 11: case 12:
                if (below(6) == 0) {
                    read(SETUPS[below(SETUPS.length)]);
                }
                break;
            default:
                if (below(2) == 0) {
                    both.image();
                } else {
                    both.undo();
                }
                break;
        }
    }

    private void read(String text) {
        if (text.length() < both.left()) {
            both.read(text);
        }
    }

    private void ask(int kind) {
        int r = rule();
        int i = claimant();
        int p = part();
        int j = claimant();
        switch (kind) {
            case 14: both.award(r, i, p); break;
            case 15: both.cut(r, i); break;
            case 16: both.dual(r, i, p); break;
            case 17: both.alone(r, i, j, p); break;
            case 18: both.consistent(r); break;
            case 19: both.change(r, i, near(1, 60), j, p); break;
            case 20: both.inverse(r, i, below(20) == 0 ? near(0, 60) : from(-1, 3)); break;
            case 21:
                if (below(8) == 0) {
                    both.bends(r, i);
                }
                break;
            case 22: both.like(r); break;
            case 23: both.sore(r, i); break;
            case 24: case 25: both.poured(r, near(1, 60), below(3) == 0 ? -1 : i); break;
            case 26: both.gap(r, near(1, 60), p); break;
            case 27: both.fits(i, p); break;
            case 28:
                if (below(8) == 0) {
                    both.odds(r, i, p);
                }
                break;
            default: both.mean(p); break;
        }
    }

    /** Often what is so, that what is looked at goes on behind it. */
    private int cutOrOther(int claimant) {
        int cut = y.cut(y.told(3), claimant);
        return cut >= 0 && below(5) != 0 ? cut : near(0, 60);
    }

    private void tell(int kind) {
        int i = below(25) == 0 ? -1 : claimant();
        int t = below(12) == 0 ? near(0, 5) : below(3);
        switch (kind) {
            case 30: case 31: both.see(i, cutOrOther(i)); break;
            case 32: case 33: {
                int what = below(25) == 0 ? -1 : near(0, 3);
                int n = what == 3 ? near(0, below(5) == 0 ? 360 : 10) : near(0, 5);
                both.event(what, n);
                break;
            }
            case 34: case 35: both.after(near(0, 2)); break;
            case 36: case 37: both.book(i, cutOrOther(i)); break;
            case 38: both.looked(); break;
            case 39: both.judge(t, near(0, 4)); break;
            case 40: both.count(near(0, 3)); break;
            default: tapes(kind, t); break;
        }
    }

    private void tapes(int kind, int t) {
        int place = near(0, 9);
        switch (kind) {
            case 41: {
                int sort = below(2) == 0 ? 3 : near(-1, 4);
                int n = below(4) == 0 ? near(0, 60) : near(0, 9);
                both.tape(t, sort, n);
                break;
            }
            case 42: {
                long v = below(3) == 0 ? below(400) - 200 : (long) below(Integer.MAX_VALUE) << below(33);
                both.item(t, place, v);
                break;
            }
            case 43: {
                // A row of longs told as the cuts are.
                for (int k = 0; k < y.told(0) && below(6) != 0 && both.left() > 1; k++) {
                    int v = Math.max(0, y.cut(y.told(3), k));
                    both.item(t, place + k, v);
                }
                both.judge(t, place);
                break;
            }
            case 44: both.peek(t, place); break;
            default: {
                int other = below(3);
                int j = near(0, 9);
                int n = near(0, 6);
                both.shift(t, place, other, j, n);
                break;
            }
        }
    }
}
