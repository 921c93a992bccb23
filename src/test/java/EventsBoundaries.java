/** Events, books: promises 26 to 29. */
final class EventsBoundaries extends Boundaries {
    // ---- event

    @Says(promise = 26, value = "A row comes to EVENTS: how many there are")
    void rowsOfEvents() {
        EstateVessels x = of(0, 10, 20);
        int[] what = {0, 0, 1, 1, 2, 2, 3, 3};
        int[] n = {0, 1, 0, 1, 0, 5, 0, 360};
        for (int k = 0; k < 8; k++) {
            due("event", x.event(what[k], n[k]), k + 1);
            due("count", x.count(1), k + 1);
        }
    }

    @Says(promise = 26, value = "(what -1: none then, 0, whatever the rest is)")
    void noEventsThen() {
        for (int n : new int[] {0, 1, 361, -1, LEAST, MOST}) {
            EstateVessels x = of(5, 10);
            due("of none", x.event(-1, n), 0);
            for (int k = 0; k < 8; k++) {
                x.event(3, 1);
            }
            due("not ready by them", x.after(0), NO);
            due("of eight", x.event(-1, n), 0);
            due("count", x.count(1), 0);
            due("after nothing", x.after(0), 5);
            due("the first again", x.event(3, 2), 1);
            due("after it", x.after(0), 7);
        }
        due("without claimants", new EstateVessels().event(-1, 0), 0);
    }

    @Says(promise = 26, value = "NONE: what (0 .. 3)")
    void noSuchEvent() {
        EstateVessels x = of(5, 10);
        for (int what : new int[] {-2, -3, 4, 5, LEAST, MOST}) {
            due("what " + what, x.event(what, 0), NONE);
        }
        due("count", x.count(1), 0);
    }

    @Says(promise = 26, value = "CLAIMANT n")
    void eventOfNoClaimant() {
        EstateVessels x = of(5, 10, 20);
        for (int i : noClaimant(x)) {
            due("5 more for " + i, x.event(0, i), NONE);
            due("1 for " + i, x.event(1, i), NONE);
        }
        due("count", x.count(1), 0);
        due("of none", new EstateVessels().event(0, 0), NONE);
        due("of none", new EstateVessels().event(1, 0), NONE);
        // Rules and estates are there without claimants.
        due("rule 5", new EstateVessels().event(2, 5), 1);
        due("360 more", new EstateVessels().event(3, 360), 1);
    }

    @Says(promise = 26, value = "BAD: RULE n")
    void eventOfNoRule() {
        EstateVessels x = of(5, 10);
        for (int rule : NO_RULE) {
            due("rule " + rule, x.event(2, rule), BAD);
        }
        due("count", x.count(1), 0);
        due("rule 0", x.event(2, 0), 1);
        due("rule 5", x.event(2, 5), 2);
    }

    @Says(promise = 26, value = "n (by 3: 0 .. 360)")
    void eventOfNoEstate() {
        EstateVessels x = of(5, 10);
        for (int n : new int[] {-1, -2, 361, 362, LEAST, MOST}) {
            due("n " + n, x.event(3, n), BAD);
        }
        due("count", x.count(1), 0);
        due("0", x.event(3, 0), 1);
        due("360", x.event(3, 360), 2);
    }

    @Says(promise = 26, value = "FULL: 8.")
    void eightEventsAreAll() {
        EstateVessels x = of(0, 10);
        for (int k = 1; k <= 8; k++) {
            due("event", x.event(3, 1), k);
        }
        due("the ninth", x.event(3, 1), FULL);
        due("the ninth of another kind", x.event(1, 0), FULL);
        due("count", x.count(1), 8);
        due("8, not 9", x.after(0), 8);
    }

    @Says(promise = 26, value = {"NONE: what (0 .. 3)", "BAD: RULE n", "FULL: 8."})
    void eventsInOrder() {
        EstateVessels x = of(0, 10);
        for (int k = 1; k <= 8; k++) {
            x.event(3, 1);
        }
        due("what, full", x.event(4, 0), NONE);
        due("claimant, full", x.event(0, 1), NONE);
        due("claimant, full", x.event(1, -1), NONE);
        due("rule, full", x.event(2, 6), BAD);
        due("n, full", x.event(3, 361), BAD);
    }

    // ---- after

    private static EstateVessels behind(int estate, int claim, int... rows) {
        EstateVessels x = of(estate, claim);
        for (int k = 0; k + 1 < rows.length; k += 2) {
            x.event(rows[k], rows[k + 1]);
        }
        return x;
    }

    @Says(promise = 0, value = "0 CLAIM of CLAIMANT n is 5 more, 60 at most")
    void fiveMoreSixtyAtMost() {
        int[] before = {1, 54, 55, 56, 59, 60};
        int[] then = {6, 59, 60, 60, 60, 60};
        for (int k = 0; k < before.length; k++) {
            due("ready by " + then[k], behind(then[k], before[k], 0, 0).after(0), then[k]);
            EstateVessels one = behind(then[k] + 1, before[k], 0, 0);
            due("not by 1 more", one.after(0), NO);
        }
        due("twice", behind(11, 1, 0, 0, 0, 0).after(0), 11);
        due("twice", behind(12, 1, 0, 0, 0, 0).after(0), NO);
    }

    @Says(promise = 0, value = "1 it is 1")
    void claimIsOne() {
        for (int claim : new int[] {1, 2, 60}) {
            due("1 of 1", behind(1, claim, 1, 0).after(0), 1);
            due("2 of 1", behind(2, claim, 1, 0).after(0), NO);
        }
    }

    @Says(promise = 0, value = "2 THE RULE is n")
    void ruleIsThen() {
        EstateVessels x = of(21, 10, 20, 30);
        long[] above = {7, 0, 7, 5, 2, 7};
        long[] below = {1, 1, 2, 1, 1, 2};
        for (int rule = 0; rule < RULES; rule++) {
            x.event(-1, 0);
            x.event(2, rule);
            due("above by " + rule, x.after(0), above[rule]);
            due("below by " + rule, x.after(1), below[rule]);
            due("bits by " + rule, x.after(2), 1 << rule);
        }
        due("THE RULE stays", x.told(3), 0);
    }

    @Says(promise = 0, value = "3 THE ESTATE is n more, 360 at most")
    void estateIsMore() {
        due("0 more", behind(5, 60, 3, 0).after(0), 5);
        due("55 more", behind(5, 60, 3, 55).after(0), 60);
        due("56 more", behind(5, 60, 3, 56).after(0), NO);
        for (int more : new int[] {0, 1, 359, 360}) {
            EstateVessels x = of(360, 60, 60, 60, 60, 60, 60);
            x.event(3, more);
            x.event(3, more);
            due("360 at most", x.after(0), 60);
            EstateVessels y = of(359, 60, 60, 60, 60, 60, 60);
            y.event(3, more);
            due("359 and more", y.after(0) * 10 + y.after(1), more == 0 ? 3596 : 601);
        }
    }

    @Says(promise = 0, value = "AFTER, behind all of it: AWARD by THE RULE of CLAIMANT 0 above, below the line;"
            + " BITS of LIKE of THE RULE.")
    void behindAllOfIt() {
        due("5 more of 1", behind(6, 60, 1, 0, 0, 0).after(0), 6);
        due("5 more of 1", behind(7, 60, 1, 0, 0, 0).after(0), NO);
        due("1 of 5 more", behind(1, 20, 0, 0, 1, 0).after(0), 1);
        due("1 of 5 more", behind(2, 20, 0, 0, 1, 0).after(0), NO);
        // Not ready between, but behind all.
        due("ready again", behind(10, 5, 3, 1, 1, 0, 0, 0, 0, 0).after(0), 11);
        due("not ready now", behind(10, 5, 0, 0).after(0), 10);
        // The eighth is done too.
        due("eight", behind(10, 5, 2, 1, 2, 1, 2, 1, 2, 1, 2, 1, 2, 1, 2, 1, 0, 0).after(0), 10);
        EstateVessels x = of(12, 10, 20);
        x.event(2, EVEN);
        x.event(2, TALMUD);
        due("the last rule, above", x.after(0), 5);
        due("the last rule, below", x.after(1), 1);
        due("the last rule, bits", x.after(2), (1 << TALMUD) + (1 << ARRIVAL));
    }

    @Says(promise = 0, value = "AFTER, behind all of it: AWARD by THE RULE of CLAIMANT 0 above, below the line;"
            + " BITS of LIKE of THE RULE.")
    void afterNothing() {
        EstateVessels x = of(50, 20, 10, 30);
        x.rule(LOSS);
        due("above", x.after(0), 50);
        due("below", x.after(1), 3);
        due("bits", x.after(2), (1 << LOSS) + (1 << TALMUD) + (1 << ARRIVAL));
        x.event(0, 2);
        // What claimant 2 has more all lose alike: 20 less 5.
        due("above", x.after(0), 15);
        due("below", x.after(1), 1);
    }

    @Says(promise = 27, value = "AFTER: what 0 above, 1 below the line, 2 BITS.")
    void eachOfAfter() {
        EstateVessels x = of(20, 10, 20, 30);
        x.event(2, SHARE);
        due("above", x.after(0), 10);
        due("below", x.after(1), 3);
        due("bits", x.after(2), 1 << SHARE);
        x.event(3, 10);
        due("above", x.after(0), 5);
        due("below", x.after(1), 1);
        due("bits", x.after(2), 60);
    }

    @Says(promise = 27, value = "NO: what")
    void afterOfNothingSuch() {
        for (int what : new int[] {-1, 3, 4, LEAST, MOST}) {
            due("what " + what, of(5, 10).after(what), NO);
        }
    }

    @Says(promise = 27, value = "not READY then.")
    void afterWhenNotReadyThen() {
        for (int what = 0; what < 3; what++) {
            due("11 of 10", of(11, 10).after(what), NO);
            due("10 and 1 of 10", behind(10, 10, 3, 1).after(what), NO);
            due("none at all", new EstateVessels().after(what), NO);
        }
        due("10 of 10", behind(10, 10, 3, 0).after(2), 63);
    }

    // ---- book, looked

    @Says(promise = 28, value = "A row comes to the BOOK: how many there are")
    void rowsOfTheBook() {
        EstateVessels x = of(0, 10, 20);
        for (int k = 1; k <= 8; k++) {
            due("book", x.book(k % 2, 7 * k), k);
            due("count", x.count(2), k);
        }
    }

    @Says(promise = 28, value = "(claimant -1: it is empty then, 0, whatever the rest is)")
    void emptyBookThen() {
        for (int n : new int[] {0, 60, 61, -1, LEAST, MOST}) {
            EstateVessels x = of(5, 10);
            due("of none", x.book(-1, n), 0);
            for (int k = 0; k < 8; k++) {
                x.book(0, 9);
            }
            due("looked", x.looked(), 0);
            due("of eight", x.book(-1, n), 0);
            due("count", x.count(2), 0);
            due("looked", x.looked(), NOT_THERE);
            due("the first again", x.book(0, 5), 1);
            due("looked", x.looked(), NOT_THERE);
        }
        due("without claimants", new EstateVessels().book(-1, 0), 0);
    }

    @Says(promise = 28, value = "NONE: claimant")
    void bookOfNoClaimant() {
        EstateVessels x = of(0, 10, 20);
        for (int i : new int[] {-2, -3, 2, 3, 6, LEAST, MOST}) {
            due("claimant " + i, x.book(i, 0), NONE);
        }
        due("count", x.count(2), 0);
        due("of none", new EstateVessels().book(0, 0), NONE);
    }

    @Says(promise = 28, value = "BAD: n (0 .. 60)")
    void bookOfNoSuchNumber() {
        EstateVessels x = of(0, 10);
        for (int n : new int[] {-1, -2, 61, 62, LEAST, MOST}) {
            due("n " + n, x.book(0, n), BAD);
        }
        due("count", x.count(2), 0);
        due("n 0", x.book(0, 0), 1);
        due("n 60", x.book(0, 60), 2);
    }

    @Says(promise = 28, value = "FULL: 8.")
    void eightInTheBookAreAll() {
        EstateVessels x = of(5, 10);
        for (int k = 1; k <= 8; k++) {
            due("book", x.book(0, 5), k);
        }
        due("the ninth", x.book(0, 4), FULL);
        due("count", x.count(2), 8);
        due("looked", x.looked(), NOT_THERE);
    }

    @Says(promise = 28, value = {"NONE: claimant", "BAD: n (0 .. 60)", "FULL: 8."})
    void bookInOrder() {
        EstateVessels x = of(5, 10);
        due("claimant, n", x.book(1, 61), NONE);
        for (int k = 1; k <= 8; k++) {
            x.book(0, 5);
        }
        due("claimant, n, full", x.book(1, -1), NONE);
        due("claimant, full", x.book(-2, 5), NONE);
        due("n, full", x.book(0, 61), BAD);
    }

    @Says(promise = 0, value = "LOOKED at: the number (from 0) of the first of these rows that isn't CUT by THE RULE"
            + " (-5: none).")
    void firstRowThatIsNot() {
        for (int wrong = 0; wrong < 8; wrong++) {
            EstateVessels x = of(15, 10, 20);
            for (int k = 0; k < 8; k++) {
                x.book(k % 2, k >= wrong ? 8 : 7);
            }
            due("from " + wrong + " on none is", x.looked(), wrong);
        }
        for (int wrong = 0; wrong < 8; wrong++) {
            EstateVessels x = of(15, 10, 20);
            for (int k = 0; k < 8; k++) {
                x.book(k % 2, k == wrong ? 6 : 7);
            }
            due(wrong + " alone isn't", x.looked(), wrong);
        }
    }

    @Says(promise = 29, value = "LOOKED at; -5.")
    void allRowsAre() {
        EstateVessels x = of(15, 10, 20);
        due("empty", x.looked(), NOT_THERE);
        for (int k = 0; k < 8; k++) {
            x.book(k % 2, 7);
            due("all are", x.looked(), NOT_THERE);
        }
        x.rule(TALMUD);
        due("by another rule", x.looked(), 0);
        x.rule(EVEN);
        x.estate(16);
        due("of another estate", x.looked(), 0);
        x.estate(14);
        x.renew(0, 7);
        due("by another claim", x.looked(), NOT_THERE);
    }

    @Says(promise = 29, value = "STATE: not READY.")
    void lookedWhenNotReady() {
        EstateVessels x = of(31, 10, 20);
        due("empty", x.looked(), STATE);
        x.book(0, 10);
        due("31 of 30", x.looked(), STATE);
        x.estate(30);
        due("30 of 30", x.looked(), NOT_THERE);
        due("none at all", new EstateVessels().looked(), STATE);
    }
}
