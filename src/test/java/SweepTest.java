/** Whole ranges, each number of them and some beyond, answered by the class and by the Reference alike. */
public final class SweepTest {
    private static final int RULES = 6, POURABLE = 5;
    private static final int[][] GROUPS = {
        {1}, {2}, {60}, {1, 1}, {1, 2}, {7, 3}, {10, 20, 30}, {30, 20, 10}, {5, 9, 5, 9}, {3, 1, 4, 1, 5},
        {1, 2, 3, 4, 5, 6}, {13, 2, 60, 7, 31, 1}, {60, 60, 60, 60, 60, 60}, {59, 60, 58, 57, 56, 55}};
    private static final int[][] SMALL_GROUPS = {{1}, {2}, {3, 4}, {1, 2, 3}, {9, 2, 5}, {4, 4, 1, 6}, {20, 30}};

    private final Checks checks = new Checks();

    private SweepTest() {
    }

    public static void main(String[] args) {
        SweepTest test = new SweepTest();
        test.claims();
        test.rows();
        test.clauses();
        test.faults();
        test.awards();
        test.twos();
        test.paths();
        test.changes();
        test.vessels();
        test.vesselsOfOne();
        test.fits();
        test.events();
        test.rowsOfTapes();
        test.judged();
        test.checks.finish("SweepTest");
    }

    private Both of(String name, int estate, int... claims) {
        return Both.of(checks, name, estate, claims);
    }

    private static int sum(int[] claims) {
        int all = 0;
        for (int claim : claims) {
            all += claim;
        }
        return all;
    }

    // ---- what is told

    private void claims() {
        for (int v = -3; v <= 64; v++) {
            Both one = new Both(checks, "claims");
            one.claim(v);
            one.claim(5);
            one.renew(0, v);
            one.renew(1, v);
            one.of(0);
            one.of(1);
            one.told(1);
        }
        Both estates = of("estates", 0, 10, 20);
        for (int v = -3; v <= 364; v++) {
            estates.estate(v);
        }
        Both numbers = of("numbers", 17, 10, 20, 30);
        for (int v = -10; v <= 70; v++) {
            numbers.rule(v);
            numbers.of(v);
            numbers.told(v);
            numbers.count(v);
            numbers.mean(v);
        }
        for (int from = -4; from < 132; from += 68) {
            Both signs = new Both(checks, "signs");
            for (int v = from; v < from + 68; v++) {
                signs.feed(v);
                signs.count(3);
            }
        }
        for (int e = 0; e <= 360; e++) {
            for (int many = 1; many <= 6; many++) {
                Both means = of("means", e, java.util.Arrays.copyOf(new int[] {1, 2, 3, 4, 5, 6}, many));
                means.mean(0);
                means.mean(1);
                means.told(4);
            }
        }
    }

    private void rows() {
        for (int v = -3; v <= 364; v++) {
            Both one = of("rows", 10, 10, 20);
            one.see(0, v);
            one.see(v, 5);
            one.book(1, v);
            one.book(v, 5);
            one.event(0, v);
            one.event(1, v);
            one.event(2, v);
            one.event(3, v);
            one.event(v, 1);
            for (int what = 0; what < 3; what++) {
                one.count(what);
                one.after(what);
                one.fits(1, what);
            }
            one.looked();
        }
    }

    // ---- texts

    private void dueText(String text) {
        Both one = of(text, 9, 10, 20);
        one.rule(2);
        one.read(text);
        for (int what = 0; what < 5; what++) {
            one.told(what);
        }
        for (int i = 0; i < 4; i++) {
            one.of(i);
        }
        one.count(3);
    }

    private void clauses() {
        for (int v = 0; v < 1000; v++) {
            for (String digits : new String[] {"" + v, "0" + v, "00" + v}) {
                dueText("e" + digits);
                if (v < 100) {
                    dueText("c" + digits);
                    dueText("n0" + digits);
                    dueText("n1" + digits);
                    dueText("r" + digits);
                    dueText("r3;n" + digits + ";c4");
                }
            }
        }
    }

    private void faults() {
        String[] starts = {"", "c", "c1", "c12", "c123", "n", "n1", "n12", "n123", "e", "e1", "e12", "e123", "r", "r1",
            "c1;", "c12;n", "c1;n05;", "e5;e360;r", "c1;c1;c1;c1;c1;c1;c1;c1;c1;c1;c1;", "r1;r1;r1;r1;r1;r1;r1;r1;r1;r1;r1;r1",
            "r1;r1;r1;r1;r1;r1;r1;r1;r1;r1;r1;c1", "c60;c60;c60;c60;c60;c60;n060;n160;n260;e360;e360;e36"};
        for (String start : starts) {
            for (int sign = 0; sign < 128; sign++) {
                dueText(start + (char) sign);
                dueText(start + (char) sign + "1");
                dueText(start + (char) sign + ";r1");
            }
        }
    }

    // ---- awards

    private void awards() {
        for (int[] claims : GROUPS) {
            int all = sum(claims);
            int step = Math.max(1, all / 40);
            for (int e = 0; e <= all + 1; e += e >= all / 2 - 2 && e <= all / 2 + 2 || e >= all - 2 ? 1 : step) {
                if (e <= 360) {
                    awardsOf(of("awards", e, claims), claims.length);
                }
            }
            awardsOf(of("awards of all", all, claims), claims.length);
        }
    }

    private void awardsOf(Both x, int claimants) {
        for (int rule = 0; rule < RULES; rule++) {
            x.consistent(rule);
            x.like(rule);
            for (int i = 0; i < claimants; i++) {
                x.award(rule, i, 0);
                x.award(rule, i, 1);
                x.cut(rule, i);
                x.dual(rule, i, 0);
                x.dual(rule, i, 1);
                x.sore(rule, i);
            }
        }
    }

    private void twos() {
        for (int[] claims : GROUPS) {
            int all = sum(claims);
            for (int part = 1; part < 12; part++) {
                Both x = of("twos", all * part / 12, claims);
                for (int rule = 0; rule < RULES; rule++) {
                    for (int i = 0; i < claims.length; i++) {
                        for (int j = 0; j < claims.length; j++) {
                            x.alone(rule, i, j, (i + part) % 2);
                        }
                    }
                }
            }
        }
    }

    private void paths() {
        for (int[] claims : SMALL_GROUPS) {
            for (int rule = 0; rule < RULES; rule++) {
                for (int i = 0; i < claims.length; i++) {
                    Both x = of("paths", 360, claims);
                    for (int v = -1; v <= 61; v++) {
                        x.inverse(rule, i, v);
                    }
                    x.bends(rule, i);
                    x.odds(rule, i, 0);
                    x.odds(rule, i, 1);
                }
            }
        }
        for (int[] claims : GROUPS) {
            Both x = of("paths", 0, claims);
            int last = claims.length - 1;
            for (int rule = 0; rule < RULES; rule++) {
                x.inverse(rule, last, claims[last]);
                x.bends(rule, last);
                x.odds(rule, last, 0);
                x.odds(rule, last, 1);
            }
        }
    }

    private void changes() {
        for (int[] claims : new int[][] {{5}, {10, 20}, {10, 20, 30}}) {
            for (int rule = 0; rule < RULES; rule++) {
                for (int v = -1; v <= 62; v++) {
                    Both x = of("changes", claims[0] * 2, claims);
                    for (int i = 0; i < claims.length; i++) {
                        for (int j = 0; j < claims.length; j++) {
                            x.change(rule, i, v, j, 0);
                            x.change(rule, i, v, j, 1);
                        }
                    }
                }
            }
        }
    }

    // ---- vessels

    private void vessels() {
        for (int[] claims : GROUPS) {
            int all = sum(claims);
            for (int part = 0; part <= 12; part++) {
                for (int n = 1; n <= 60; n++) {
                    Both x = of("vessels", all * part / 12, claims);
                    for (int rule = 0; rule < POURABLE; rule++) {
                        for (int i = -1; i < claims.length; i++) {
                            x.poured(rule, n, i);
                        }
                        x.gap(rule, n, 0);
                        x.gap(rule, n, 1);
                    }
                }
            }
        }
    }

    /** One object, of which claims become greater and lesser: nothing is kept from one pouring to the next. */
    private void vesselsOfOne() {
        for (int n = 1; n <= 60; n++) {
            Both x = of("vessels of one", 20, 4, 10, 7);
            for (int k = 0; k < 8; k++) {
                x.renew(k % 3, k % 2 == 0 ? 60 - k : 1 + k);
                x.estate(Math.min(20 + 3 * k, x.told(1)));
                for (int rule = 0; rule < POURABLE; rule++) {
                    x.poured(rule, n, -1);
                    x.poured(rule, n, 0);
                    x.poured(rule, n, 1);
                    x.poured(rule, n, 2);
                    x.gap(rule, 61 - n, 1);
                }
            }
        }
    }

    // ---- rows that are looked at

    private void fits() {
        for (int[] claims : SMALL_GROUPS) {
            for (int e = 0; e <= sum(claims) + 1; e++) {
                Both x = of("fits", e, claims);
                for (int rule = 0; rule < RULES; rule++) {
                    x.rule(rule);
                    x.see(-1, 0);
                    x.book(-1, 0);
                    for (int i = claims.length - 1; i >= 0; i--) {
                        int cut = x.y.cut(rule, i);
                        x.see(i, Math.max(0, cut));
                        x.book(i, Math.max(0, cut));
                        x.fits(0, 0);
                        x.fits(0, 1);
                        x.fits(claims.length - 1, 0);
                    }
                    x.looked();
                    x.book(0, 60);
                    x.looked();
                }
            }
        }
    }

    private void events() {
        for (int claim = 1; claim <= 60; claim++) {
            for (int more = 0; more <= 60; more += 5) {
                Both x = of("events", claim, claim, 7);
                x.event(0, 0);
                x.event(3, more);
                x.after(0);
                x.after(1);
                x.after(2);
                x.event(1, 1);
                x.after(0);
                x.event(0, 0);
                x.event(2, more % RULES);
                x.after(0);
                x.after(2);
            }
        }
        for (int e = 0; e <= 360; e++) {
            for (int more : new int[] {0, 1, 359 - e, 360 - e, 361 - e, 360}) {
                Both x = of("estates", e, 60, 60, 60, 60, 60, 59);
                x.event(3, more);
                x.after(0);
                x.event(0, 5);
                x.after(0);
                x.after(1);
            }
        }
    }

    // ---- tapes

    private void rowsOfTapes() {
        for (int sort = -2; sort <= 5; sort++) {
            for (int n = -2; n <= 62; n++) {
                Both x = new Both(checks, "tapes");
                int tape = (n + 60) % 6;
                x.tape(tape, sort, n);
                for (int k = -1; k <= 61; k++) {
                    x.item(tape, k, 1000L * k * k * k * k * k * k + k);
                    x.peek(tape, k);
                }
                x.tape((tape + 1) % 6, sort, 30);
                for (int k = 0; k <= 31; k++) {
                    x.shift(tape, k, (tape + 1) % 6, 0, 1 + k % 3);
                    x.shift((tape + 1) % 6, 0, tape, k * 2, 2);
                    x.peek(tape, k);
                }
            }
        }
    }

    private void judged() {
        for (int[] claims : GROUPS) {
            for (int length = 0; length <= 8; length++) {
                Both x = of("judged", sum(claims) / 3, claims);
                x.tape(0, 3, length);
                for (int rule = 0; rule < RULES; rule++) {
                    x.rule(rule);
                    for (int place = 0; place <= length; place++) {
                        for (int k = 0; k < claims.length && place + k < length && place < 3; k++) {
                            x.item(0, place + k, x.y.cut(rule, k));
                        }
                        x.judge(0, place);
                    }
                    x.judge(0, -1);
                    x.judge(1, rule);
                }
            }
        }
    }
}
