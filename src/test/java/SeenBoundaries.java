/** Seen, odds, mean: promises 22 to 25. */
final class SeenBoundaries extends Boundaries {
    // ---- see

    @Says(promise = 22, value = "What is SEEN comes: how many there are")
    void rowsOfSeen() {
        EstateVessels x = of(0, 10, 20);
        for (int k = 1; k <= 5; k++) {
            due("see", x.see(k % 2, 12 * k), k);
            due("count", x.count(0), k);
        }
    }

    @Says(promise = 22, value = "(claimant -1: none then, 0, whatever the rest is)")
    void noneSeenThen() {
        for (int n : new int[] {0, 60, 61, -1, LEAST, MOST}) {
            EstateVessels x = of(5, 10);
            due("of none", x.see(-1, n), 0);
            for (int k = 1; k <= 5; k++) {
                x.see(0, 9);
            }
            due("none by it", x.fits(0, 0), 0);
            due("of five", x.see(-1, n), 0);
            due("count", x.count(0), 0);
            due("all by nothing seen", x.fits(0, 0), 26);
            due("the first again", x.see(0, 5), 1);
        }
        due("without claimants", new EstateVessels().see(-1, 0), 0);
    }

    @Says(promise = 22, value = "NONE: claimant")
    void seenOfNoClaimant() {
        EstateVessels x = of(0, 10, 20);
        for (int i : new int[] {-2, -3, 2, 3, 6, LEAST, MOST}) {
            due("claimant " + i, x.see(i, 0), NONE);
        }
        due("count", x.count(0), 0);
        due("of none", new EstateVessels().see(0, 0), NONE);
    }

    @Says(promise = 22, value = "BAD: n (0 .. 60)")
    void seenOfNoSuchNumber() {
        EstateVessels x = of(0, 10);
        for (int n : new int[] {-1, -2, 61, 62, LEAST, MOST}) {
            due("n " + n, x.see(0, n), BAD);
        }
        due("count", x.count(0), 0);
        due("n 0", x.see(0, 0), 1);
        due("n 60", x.see(0, 60), 2);
    }

    @Says(promise = 22, value = "FULL: 5.")
    void fiveSeenAreAll() {
        EstateVessels x = of(5, 10);
        for (int k = 1; k <= 5; k++) {
            due("see", x.see(0, 5), k);
        }
        due("the sixth", x.see(0, 4), FULL);
        due("count", x.count(0), 5);
        // The sixth isn't looked at.
        due("fits", x.fits(0, 0), 26);
    }

    @Says(promise = 22, value = {"NONE: claimant", "BAD: n (0 .. 60)", "FULL: 5."})
    void seenInOrder() {
        EstateVessels x = of(5, 10);
        due("claimant, n", x.see(1, 61), NONE);
        for (int k = 1; k <= 5; k++) {
            x.see(0, 5);
        }
        due("claimant, n, full", x.see(1, -1), NONE);
        due("claimant, full", x.see(-2, 5), NONE);
        due("n, full", x.see(0, 61), BAD);
    }

    // ---- fits

    @Says(promise = 0, value = "FITS of a CLAIMANT: how many CLAIMS 1 .. 30 there are by which, were that its own, all were"
            + " READY, and all of SEEN were CUT so by THE RULE; the least (-5: none).")
    void fitsFromOneToThirty() {
        EstateVessels x = of(0, 60, 20);
        due("by nothing seen", x.fits(0, 0), 30);
        due("the least", x.fits(0, 1), 1);
        x.see(0, 0);
        due("by nothing cut", x.fits(0, 0), 30);
        due("of the other", x.fits(1, 0), 30);
        due("the claim stays", x.of(0), 60);
    }

    @Says(promise = 0, value = "all were READY")
    void fitsWhenReadyThen() {
        due("by 30 alone", of(40, 60, 10).fits(0, 0), 1);
        due("30", of(40, 60, 10).fits(0, 1), 30);
        due("by 31", of(41, 60, 10).fits(0, 0), 0);
        due("none", of(41, 60, 10).fits(0, 1), NOT_THERE);
        due("by 1", of(11, 60, 10).fits(0, 0), 30);
        due("from 2 on", of(12, 60, 10).fits(0, 0), 29);
        due("2", of(12, 60, 10).fits(0, 1), 2);
        // Not ready now.
        due("40 of 20", of(40, 10, 10).fits(0, 1), 30);
        due("40 of 20", of(40, 10, 10).fits(0, 0), 1);
    }

    @Says(promise = 0, value = "all of SEEN were CUT so by THE RULE")
    void fitsAllSeen() {
        EstateVessels x = of(10, 10, 20);
        x.see(0, 4);
        due("4 alone", x.fits(0, 0), 1);
        due("4", x.fits(0, 1), 4);
        x.see(1, 6);
        due("4 alone, by the other too", x.fits(0, 0), 1);
        x.see(1, 7);
        due("none by both", x.fits(0, 0), 0);
        due("no least", x.fits(0, 1), NOT_THERE);
    }

    @Says(promise = 0, value = "all of SEEN were CUT so by THE RULE")
    void fitsTheFirstAndTheLastSeen() {
        for (int wrong = 0; wrong < 5; wrong++) {
            EstateVessels x = of(10, 10, 20);
            for (int k = 0; k < 5; k++) {
                x.see(k % 2, k == wrong ? 59 : 5);
            }
            due("row " + wrong + " isn't so", x.fits(0, 0), 0);
        }
        EstateVessels x = of(10, 10, 20);
        for (int k = 0; k < 5; k++) {
            x.see(k % 2, 5);
        }
        due("all are so", x.fits(0, 0), 26);
        due("5", x.fits(0, 1), 5);
    }

    @Says(promise = 0, value = "all of SEEN were CUT so by THE RULE")
    void fitsByTheRule() {
        EstateVessels x = of(40, 10, 20);
        x.rule(SHARE);
        x.see(0, 20);
        // 40 v / (v + 20) is 20 and less than 21 by 20, 21 and 22.
        due("by share", x.fits(0, 0), 3);
        due("by share", x.fits(0, 1), 20);
        x.rule(ARRIVAL);
        // (v + 20) / 2 is 20 and less than 21 by 20 and 21.
        due("by arrival", x.fits(0, 0), 2);
        x.rule(EVEN);
        due("by even", x.fits(0, 0), 11);
    }

    @Says(promise = 0, value = "were that its own")
    void fitsOfTheOther() {
        EstateVessels x = of(10, 10, 20);
        x.see(1, 4);
        due("the other's own is 4", x.fits(1, 0), 1);
        due("4", x.fits(1, 1), 4);
        due("by none of this one's", x.fits(0, 0), 0);
        due("no least", x.fits(0, 1), NOT_THERE);
    }

    @Says(promise = 0, value = "the least (-5: none).")
    void fitsThirtyAlone() {
        EstateVessels x = of(10, 10, 21);
        x.rule(LOSS);
        x.see(1, 0);
        // By 29 the other has 1, by 30 it has 1/2: cut, 0.
        due("30 alone", x.fits(0, 0), 1);
        due("30", x.fits(0, 1), 30);
        x.estate(11);
        due("31 would be", x.fits(0, 0), 0);
        due("no least", x.fits(0, 1), NOT_THERE);
    }

    @Says(promise = 23, value = "FITS: what 0 how many, 1 the least; -5. NONE: claimant, what.")
    void fitsOfNone() {
        EstateVessels x = of(10, 10, 20);
        for (int i : noClaimant(x)) {
            due("claimant " + i, x.fits(i, 0), NONE);
        }
        for (int what : new int[] {-1, 2, 3, LEAST, MOST}) {
            due("what " + what, x.fits(0, what), NONE);
        }
        due("of none", new EstateVessels().fits(0, 0), NONE);
    }

    // ---- odds, mean

    private void dueOdds(EstateVessels x, int rule, int claimant, long above, long below) {
        String call = "of " + claimant + " by rule " + rule;
        due("above " + call, x.odds(rule, claimant, 0), above);
        due("below " + call, x.odds(rule, claimant, 1), below);
    }

    @Says(promise = 0, value = "ODDS of a CLAIMANT by a RULE: were THE ESTATE 0, 1, .., ALL, each alike likely: how likely"
            + " its AWARD is half of its CLAIM at least: a fraction in lowest terms.")
    void oddsFromNothingToAll() {
        for (int rule = 0; rule < RULES; rule++) {
            // 1 of 0, 1.
            dueOdds(of(0, 1), rule, 0, 1, 2);
            // 1, 2 of 0, 1, 2.
            dueOdds(of(0, 2), rule, 0, 2, 3);
            dueOdds(of(0, 1, 1), rule, 0, 2, 3);
            dueOdds(of(360, 60, 60, 60, 60, 60, 60), rule, 5, 181, 361);
        }
        // By 30 each loses 10 at most: 10 of 20 are left.
        dueOdds(of(0, 10, 20, 30), LOSS, 1, 31, 61);
    }

    @Says(promise = 0, value = "how likely its AWARD is half of its CLAIM at least")
    void oddsAtHalf() {
        // Even: 5 by 15; loss: 5 by 45; share: 5 by 30; talmud: 5 by 15; turned: 5 by 30.
        EstateVessels x = of(0, 10, 20, 30);
        dueOdds(x, EVEN, 0, 46, 61);
        dueOdds(x, LOSS, 0, 16, 61);
        dueOdds(x, SHARE, 0, 31, 61);
        dueOdds(x, TALMUD, 0, 46, 61);
        dueOdds(x, TURNED, 0, 31, 61);
        dueOdds(x, ARRIVAL, 0, 31, 61);
    }

    @Says(promise = 0, value = "a fraction in lowest terms")
    void oddsInLowestTerms() {
        // 6 .. 11 by share of 11 alone are 6 of 12.
        dueOdds(of(0, 11), SHARE, 0, 1, 2);
        // By 10 .. 23 of 0 .. 23: 14 of 24.
        dueOdds(of(0, 10, 13), EVEN, 0, 7, 12);
    }

    @Says(promise = 24, value = "ODDS; part 0 above, 1 below the line. NO: rule, claimant, part.")
    void oddsOfNone() {
        EstateVessels x = of(10, 10, 20);
        for (int rule : NO_RULE) {
            due("rule " + rule, x.odds(rule, 0, 0), NO);
        }
        for (int i : noClaimant(x)) {
            due("claimant " + i, x.odds(EVEN, i, 0), NO);
        }
        for (int part : NO_PART) {
            due("part " + part, x.odds(EVEN, 0, part), NO);
        }
        due("of none", new EstateVessels().odds(EVEN, 0, 0), NO);
    }

    private void dueMean(EstateVessels x, long above, long below) {
        due("above", x.mean(0), above);
        due("below", x.mean(1), below);
    }

    @Says(promise = 0, value = "MEAN: THE ESTATE by how many CLAIMANTS there are: a fraction in lowest terms.")
    void meanOfNothingAndOfMuch() {
        dueMean(of(0, 5), 0, 1);
        dueMean(of(0, 5, 5, 5), 0, 1);
        dueMean(of(5, 5), 5, 1);
        dueMean(of(360, 60, 60, 60, 60, 60, 60), 60, 1);
        dueMean(of(359, 60, 60, 60, 60, 60, 60), 359, 6);
        dueMean(of(14, 60, 60, 60, 60), 7, 2);
        dueMean(of(9, 60, 60, 60, 60, 60, 60), 3, 2);
    }

    @Says(promise = 25, value = "MEAN; part likewise.")
    void meanWhenNotReady() {
        dueMean(of(360, 1), 360, 1);
        dueMean(of(360, 1, 1), 180, 1);
        dueMean(of(7, 1, 1), 7, 2);
    }

    @Says(promise = 25, value = "NO: part")
    void meanOfNoPart() {
        for (int part : NO_PART) {
            due("part " + part, of(5, 10).mean(part), NO);
        }
    }

    @Says(promise = 25, value = "no CLAIMANTS.")
    void meanOfNone() {
        due("above", of(5).mean(0), NO);
        due("below", of(5).mean(1), NO);
        EstateVessels x = of(5);
        x.claim(1);
        dueMean(x, 5, 1);
    }
}
