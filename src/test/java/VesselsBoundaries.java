/** Vessels: promises 20 and 21. */
final class VesselsBoundaries extends Boundaries {
    private static final int POURABLE = 5;

    private static long bits(float v) {
        return Float.floatToIntBits(v);
    }

    /** Of claimants 0, 1, .. the amounts; what is spilled comes last. */
    private void dueAmounts(EstateVessels x, int rule, int drops, float... amounts) {
        int last = amounts.length - 1;
        for (int i = 0; i < last; i++) {
            due("of " + i + " by rule " + rule + " in " + drops, x.poured(rule, drops, i), bits(amounts[i]));
        }
        due("spilled by rule " + rule + " in " + drops, x.poured(rule, drops, -1), bits(amounts[last]));
    }

    private void dueGap(EstateVessels x, int rule, int drops, double gap) {
        long bits = Double.doubleToLongBits(gap);
        due("higher by rule " + rule + " in " + drops, x.gap(rule, drops, 0), bits >>> 32);
        due("lower by rule " + rule + " in " + drops, x.gap(rule, drops, 1), bits & 0xFFFFFFFFL);
    }

    private static EstateVessels notReady() {
        return of(31, 10, 20);
    }

    // ---- poured

    @Says(promise = 0, value = "POURED by a RULE (0 .. 4) in n DROPS (1 .. 60), in floats")
    void inOneDropAndInSixty() {
        for (int rule = 0; rule < POURABLE; rule++) {
            dueAmounts(of(10, 40), rule, 1, 10.0f, 0.0f);
            float amount = 0.0f;
            for (int k = 0; k < 60; k++) {
                amount += 10.0f / 60.0f;
            }
            dueAmounts(of(10, 40), rule, 60, amount, 0.0f);
        }
    }

    @Says(promise = 0, value = "a DROP is THE ESTATE by n (both as floats)")
    void dropOfNothing() {
        for (int rule = 0; rule < POURABLE; rule++) {
            dueAmounts(of(0, 10, 20), rule, 1, 0.0f, 0.0f, 0.0f);
            dueAmounts(of(0, 10, 20), rule, 60, 0.0f, 0.0f, 0.0f);
        }
    }

    @Says(promise = 0, value = "a DROP is THE ESTATE by n (both as floats)")
    void dropIsNoWholeNumber() {
        dueAmounts(of(10, 10, 10, 10), EVEN, 3, 10.0f / 3.0f, 10.0f / 3.0f, 10.0f / 3.0f, 0.0f);
        float seventh = 1.0f / 7.0f;
        float three = seventh + seventh + seventh;
        dueAmounts(of(1, 10, 10), EVEN, 7, three + seventh, three, 0.0f);
    }

    @Says(promise = 0, value = "AMOUNTS and SPILLED are 0.0f.")
    void emptyEachTime() {
        EstateVessels x = of(20, 10, 20);
        for (int k = 0; k < 3; k++) {
            dueAmounts(x, EVEN, 1, 10.0f, 0.0f, 10.0f);
            dueAmounts(x, LOSS, 1, 0.0f, 20.0f, 0.0f);
        }
    }

    @Says(promise = 0, value = "of those whose AMOUNT is below CLAIM (as a float) the first with the least SURFACE")
    void firstOfLikes() {
        for (int rule = 0; rule < POURABLE; rule++) {
            dueAmounts(of(1, 5, 5, 5), rule, 1, 1.0f, 0.0f, 0.0f, 0.0f);
            dueAmounts(of(2, 5, 5, 5), rule, 2, 1.0f, 1.0f, 0.0f, 0.0f);
            dueAmounts(of(4, 5, 5, 5), rule, 4, 2.0f, 1.0f, 1.0f, 0.0f);
        }
        dueAmounts(of(1, 3, 5), EVEN, 1, 1.0f, 0.0f, 0.0f);
        dueAmounts(of(1, 3, 5), LOSS, 1, 0.0f, 1.0f, 0.0f);
        dueAmounts(of(1, 3, 5), SHARE, 1, 1.0f, 0.0f, 0.0f);
        dueAmounts(of(1, 3, 5), TALMUD, 1, 1.0f, 0.0f, 0.0f);
        dueAmounts(of(1, 3, 5), TURNED, 1, 0.0f, 1.0f, 0.0f);
    }

    @Says(promise = 0, value = "of those whose AMOUNT is below CLAIM (as a float) the first with the least SURFACE")
    void notOneThatIsJustFull() {
        // The first is full by its first drop, and would have the least surface.
        dueAmounts(of(4, 2, 9), EVEN, 2, 2.0f, 2.0f, 0.0f);
        dueAmounts(of(6, 2, 9), EVEN, 3, 2.0f, 4.0f, 0.0f);
        dueAmounts(of(6, 2, 9), TALMUD, 6, 1.0f, 5.0f, 0.0f);
        dueAmounts(of(10, 2, 9), TALMUD, 10, 2.0f, 8.0f, 0.0f);
        dueAmounts(of(11, 2, 9), TALMUD, 11, 2.0f, 9.0f, 0.0f);
        dueAmounts(of(5, 1, 9), SHARE, 5, 1.0f, 4.0f, 0.0f);
        dueAmounts(of(10, 1, 9), LOSS, 10, 1.0f, 9.0f, 0.0f);
        dueAmounts(of(10, 1, 9), TURNED, 10, 1.0f, 9.0f, 0.0f);
    }

    @Says(promise = 0, value = "but if that is above CLAIM, it is CLAIM, and what is above (that sum less CLAIM) comes to"
            + " SPILLED")
    void aboveClaimIsSpilled() {
        dueAmounts(of(11, 10, 20), EVEN, 1, 10.0f, 0.0f, 1.0f);
        dueAmounts(of(21, 20, 10), LOSS, 1, 20.0f, 0.0f, 1.0f);
        dueAmounts(of(20, 10, 20), EVEN, 1, 10.0f, 0.0f, 10.0f);
        // Twice: 3 by 1, then 3 by 2.
        dueAmounts(of(6, 1, 2, 9), EVEN, 2, 1.0f, 2.0f, 0.0f, 3.0f);
        dueAmounts(of(6, 1, 2, 9), SHARE, 2, 1.0f, 2.0f, 0.0f, 3.0f);
        dueAmounts(of(9, 1, 2, 9), TALMUD, 3, 1.0f, 2.0f, 3.0f, 3.0f);
    }

    @Says(promise = 0, value = "but if that is above CLAIM, it is CLAIM, and what is above (that sum less CLAIM) comes to"
            + " SPILLED")
    void nothingIsSpilledAtClaim() {
        for (int rule = 0; rule < POURABLE; rule++) {
            dueAmounts(of(10, 10), rule, 1, 10.0f, 0.0f);
            dueAmounts(of(60, 60), rule, 60, 60.0f, 0.0f);
            dueAmounts(of(20, 10, 10), rule, 2, 10.0f, 10.0f, 0.0f);
            dueAmounts(of(360, 60, 60, 60, 60, 60, 60), rule, 6, 60.0f, 60.0f, 60.0f, 60.0f, 60.0f, 60.0f, 0.0f);
        }
    }

    @Says(promise = 0, value = "SURFACE: EVEN: AMOUNT")
    void evenByAmount() {
        dueAmounts(of(7, 20, 10, 15), EVEN, 7, 3.0f, 2.0f, 2.0f, 0.0f);
    }

    @Says(promise = 0, value = "LOSS: AMOUNT less CLAIM")
    void lossByClaimLess() {
        // -3, -5, -4: 1 to -4, then 1 as the first of two to -3, then 2 to -3, then 0.
        dueAmounts(of(1, 3, 5, 4), LOSS, 1, 0.0f, 1.0f, 0.0f, 0.0f);
        dueAmounts(of(2, 3, 5, 4), LOSS, 2, 0.0f, 2.0f, 0.0f, 0.0f);
        dueAmounts(of(3, 3, 5, 4), LOSS, 3, 0.0f, 2.0f, 1.0f, 0.0f);
        dueAmounts(of(4, 3, 5, 4), LOSS, 4, 1.0f, 2.0f, 1.0f, 0.0f);
    }

    @Says(promise = 0, value = "SHARE: AMOUNT by CLAIM")
    void shareByClaim() {
        // 1/2, then 1/4, 2/4 against 1/2: the first.
        dueAmounts(of(1, 2, 4), SHARE, 1, 1.0f, 0.0f, 0.0f);
        dueAmounts(of(2, 2, 4), SHARE, 2, 1.0f, 1.0f, 0.0f);
        dueAmounts(of(3, 2, 4), SHARE, 3, 1.0f, 2.0f, 0.0f);
        dueAmounts(of(4, 2, 4), SHARE, 4, 2.0f, 2.0f, 0.0f);
        // 3/9 and 1/3 are one float.
        dueAmounts(of(4, 9, 3), SHARE, 4, 3.0f, 1.0f, 0.0f);
        dueAmounts(of(5, 9, 3), SHARE, 5, 4.0f, 1.0f, 0.0f);
    }

    @Says(promise = 0, value = "TALMUD: AMOUNT, if 2.0f times that is below CLAIM, else the greatest CLAIM less"
            + " (CLAIM less AMOUNT)")
    void talmudBesideHalf() {
        // At 2 of 4 the surface is 10 - 2: till 1 has 8 of 10 all falls there.
        dueAmounts(of(3, 4, 10), TALMUD, 3, 2.0f, 1.0f, 0.0f);
        dueAmounts(of(4, 4, 10), TALMUD, 4, 2.0f, 2.0f, 0.0f);
        dueAmounts(of(10, 4, 10), TALMUD, 10, 2.0f, 8.0f, 0.0f);
        dueAmounts(of(11, 4, 10), TALMUD, 11, 3.0f, 8.0f, 0.0f);
        dueAmounts(of(12, 4, 10), TALMUD, 12, 3.0f, 9.0f, 0.0f);
        dueAmounts(of(13, 4, 10), TALMUD, 13, 4.0f, 9.0f, 0.0f);
        dueAmounts(of(6, 10, 4), TALMUD, 6, 4.0f, 2.0f, 0.0f);
        dueAmounts(of(10, 10, 4), TALMUD, 10, 8.0f, 2.0f, 0.0f);
        dueAmounts(of(11, 10, 4), TALMUD, 11, 9.0f, 2.0f, 0.0f);
        dueAmounts(of(12, 10, 4), TALMUD, 12, 9.0f, 3.0f, 0.0f);
        // At 2 of 5 it is 2, at 3 of 5 it is 8.
        dueAmounts(of(5, 5, 10), TALMUD, 5, 3.0f, 2.0f, 0.0f);
        dueAmounts(of(11, 5, 10), TALMUD, 11, 3.0f, 8.0f, 0.0f);
        dueAmounts(of(12, 5, 10), TALMUD, 12, 4.0f, 8.0f, 0.0f);
    }

    @Says(promise = 0, value = "TALMUD: AMOUNT, if 2.0f times that is below CLAIM, else the greatest CLAIM less"
            + " (CLAIM less AMOUNT)")
    void talmudByGreatestOfNow() {
        // By a greater one the surfaces are rounded otherwise: 5/3 and 7/3 come of it.
        EstateVessels x = of(4, 2, 60);
        x.poured(TALMUD, 12, 0);
        x.renew(1, 3);
        dueAmounts(x, TALMUD, 12, 1.3333334f, 2.6666665f, 0.0f);
        dueAmounts(of(4, 2, 3), TALMUD, 12, 1.3333334f, 2.6666665f, 0.0f);
    }

    @Says(promise = 0, value = "SHARE: AMOUNT by CLAIM")
    void shareIsDivided() {
        // Times 1.0f / CLAIM the surfaces are rounded otherwise: 2/3 and 1/3 come of it.
        dueAmounts(of(1, 3, 1), SHARE, 9, 0.7777778f, 0.22222222f, 0.0f);
    }

    @Says(promise = 0, value = "but if that is above CLAIM, it is CLAIM, and what is above (that sum less CLAIM) comes to"
            + " SPILLED")
    void eachLittleSpilled() {
        // Each sum less its claim, then together.
        dueAmounts(of(3, 1, 2), TURNED, 30, 1.0f, 2.0f, 3.5762787E-7f);
    }

    @Says(promise = 0, value = "TURNED: AMOUNT less (CLAIM times 0.5f)")
    void turnedByHalves() {
        // -1.5, -2.5, -2
        dueAmounts(of(1, 3, 5, 4), TURNED, 1, 0.0f, 1.0f, 0.0f, 0.0f);
        dueAmounts(of(2, 3, 5, 4), TURNED, 2, 0.0f, 1.0f, 1.0f, 0.0f);
        dueAmounts(of(3, 3, 5, 4), TURNED, 3, 1.0f, 1.0f, 1.0f, 0.0f);
        dueAmounts(of(4, 3, 5, 4), TURNED, 4, 1.0f, 2.0f, 1.0f, 0.0f);
        dueAmounts(of(5, 3, 5, 4), TURNED, 5, 1.0f, 2.0f, 2.0f, 0.0f);
    }

    @Says(promise = 20, value = "Bits of the AMOUNT of a CLAIMANT, POURED; claimant -1: of SPILLED.")
    void bitsOfAmount() {
        for (int e = 0; e <= 60; e++) {
            for (int n = 1; n <= 60; n++) {
                EstateVessels x = of(e, 60);
                float amount = 0.0f;
                for (int k = 0; k < n; k++) {
                    amount += (float) e / (float) n;
                }
                due("of " + e + " in " + n, x.poured(EVEN, n, 0), bits(Math.min(60.0f, amount)));
                due("spilled of " + e + " in " + n, x.poured(EVEN, n, -1), bits(Math.max(60.0f, amount) - 60.0f));
            }
        }
    }

    @Says(promise = 20, value = "Bits of the AMOUNT of a CLAIMANT, POURED; claimant -1: of SPILLED.")
    void bitsOfLittleSpilled() {
        // 10.0f / 7.0f, seven times, is a bit above 10.
        due("10 in 7", of(10, 10).poured(TURNED, 7, -1), 897581056L);
        due("10 in 7", of(10, 10).poured(TURNED, 7, 0), bits(10.0f));
    }

    @Says(promise = 20, value = "NO: rule (0 .. 4)")
    void notPouredByRule() {
        for (int rule : NO_RULE) {
            due("rule " + rule, of(10, 10, 20).poured(rule, 4, 0), NO);
        }
        due("by arrival", of(10, 10, 20).poured(ARRIVAL, 4, 0), NO);
        due("by turned", of(20, 20).poured(TURNED, 1, 0), bits(20.0f));
        due("by even", of(20, 20).poured(EVEN, 1, 0), bits(20.0f));
    }

    @Says(promise = 20, value = "n")
    void notPouredInSoManyDrops() {
        for (int n : new int[] {0, -1, 61, 62, LEAST, MOST}) {
            due("n " + n, of(10, 10, 20).poured(EVEN, n, 0), NO);
            due("spilled, n " + n, of(10, 10, 20).poured(EVEN, n, -1), NO);
        }
    }

    @Says(promise = 20, value = "claimant")
    void notPouredForNoClaimant() {
        EstateVessels x = of(10, 10, 20);
        for (int i : new int[] {-2, -3, 2, 3, 6, LEAST, MOST}) {
            due("claimant " + i, x.poured(EVEN, 4, i), NO);
        }
    }

    @Says(promise = 20, value = "not READY.")
    void notPouredWhenNotReady() {
        for (int i = -1; i < 2; i++) {
            due("31 of 30", notReady().poured(EVEN, 4, i), NO);
        }
        due("spilled of none at all", new EstateVessels().poured(EVEN, 1, -1), NO);
        due("of none at all", new EstateVessels().poured(EVEN, 1, 0), NO);
    }

    // ---- gap

    @Says(promise = 0, value = "GAP: of all CLAIMANTS the greatest of AMOUNT (as a double) less AWARD (above the line by"
            + " below, as doubles), without sign, as a double.")
    void gapWithoutSign() {
        // 1 less 10/21 is less than 0 less 200/21, without sign.
        dueGap(of(10, 1, 20), SHARE, 1, 200.0 / 21.0);
        dueGap(of(10, 20, 20), EVEN, 10, 0.0);
        dueGap(of(10, 20, 20), EVEN, 1, 5.0);
        dueGap(of(3, 20, 20), EVEN, 3, 0.5);
    }

    @Says(promise = 0, value = "GAP: of all CLAIMANTS the greatest of AMOUNT (as a double) less AWARD (above the line by"
            + " below, as doubles), without sign, as a double.")
    void gapIsTheGreatest() {
        // That of the first, of one between, of the last.
        dueGap(of(10, 10, 20, 20, 20, 20, 20), EVEN, 1, 10.0 - 10.0 / 6.0);
        dueGap(of(1, 10, 20, 30), SHARE, 1, 1.0 - 1.0 / 6.0);
        dueGap(of(20, 1, 30, 2), SHARE, 1, 200.0 / 11.0);
        dueGap(of(6, 1, 2, 3), TURNED, 1, 2.0);
        dueGap(of(6, 3, 2, 1), EVEN, 1, 2.0);
        dueGap(of(12, 3, 2, 7), EVEN, 1, 7.0);
        dueGap(of(10, 20, 20, 20, 20, 20, 60), LOSS, 2, 0.0);
    }

    @Says(promise = 0, value = "GAP: of all CLAIMANTS the greatest of AMOUNT (as a double) less AWARD (above the line by"
            + " below, as doubles), without sign, as a double.")
    void gapOfFloatsAndDoubles() {
        double third = (double) (10.0f / 3.0f) - 10.0 / 3.0;
        dueGap(of(10, 10, 10, 10), EVEN, 3, Math.abs(third));
        dueGap(of(1, 5, 5, 5, 5), EVEN, 7, 0.25 - (double) (1.0f / 7.0f));
        due("a third isn't one in floats", third != 0.0 ? 1 : 0, 1);
    }

    @Says(promise = 21, value = "Of GAP's bits the higher 32 (part 0), the lower 32 (1), each without a sign (0 and more).")
    void lowerBitsWithoutSign() {
        // The lower 32 bits of 20/3 begin with a 1.
        long bits = Double.doubleToLongBits(20.0 / 3.0);
        due("they do", bits >>> 31 & 1, 1);
        EstateVessels x = of(10, 10, 20);
        due("higher", x.gap(SHARE, 1, 0), bits >>> 32);
        due("lower", x.gap(SHARE, 1, 1), bits & 0xFFFFFFFFL);
    }

    @Says(promise = 21, value = "Of GAP's bits the higher 32 (part 0), the lower 32 (1), each without a sign (0 and more).")
    void noGap() {
        for (int rule = 0; rule < POURABLE; rule++) {
            dueGap(of(0, 10, 20), rule, 1, 0.0);
            dueGap(of(10, 10), rule, 1, 0.0);
            dueGap(of(360, 60, 60, 60, 60, 60, 60), rule, 60, 0.0);
        }
    }

    @Says(promise = 21, value = "NO: rule (0 .. 4)")
    void noGapByRule() {
        for (int rule : NO_RULE) {
            due("rule " + rule, of(10, 10, 20).gap(rule, 4, 0), NO);
        }
        due("by arrival", of(10, 10, 20).gap(ARRIVAL, 4, 0), NO);
    }

    @Says(promise = 21, value = "n, part")
    void noGapInSoManyDrops() {
        for (int n : new int[] {0, -1, 61, 62, LEAST, MOST}) {
            due("n " + n, of(10, 10, 20).gap(EVEN, n, 0), NO);
        }
        for (int part : NO_PART) {
            due("part " + part, of(10, 10, 20).gap(EVEN, 4, part), NO);
        }
    }

    @Says(promise = 21, value = "not READY.")
    void noGapWhenNotReady() {
        due("31 of 30", notReady().gap(EVEN, 4, 0), NO);
        due("31 of 30", notReady().gap(EVEN, 4, 1), NO);
        due("none at all", new EstateVessels().gap(EVEN, 1, 0), NO);
    }
}
