/** Awards: promises 10 to 19. */
final class AwardsBoundaries extends Boundaries {
    private static final int[][] GROUPS = {
        {1}, {60}, {1, 1}, {1, 2}, {10, 20, 30}, {5, 5, 5}, {7, 60, 1, 60}, {3, 1, 4, 1, 5}, {1, 2, 3, 4, 5, 6},
        {60, 60, 60, 60, 60, 60}, {60, 1, 59, 2, 58, 3}};

    private static EstateVessels three(int estate) {
        return of(estate, 10, 20, 30);
    }

    /** 61 of 60. */
    private static EstateVessels notReady() {
        return three(61);
    }

    // ---- the rules

    @Says(promise = 0, value = "0 EVEN: each the lesser of CLAIM and one LEVEL for all.")
    void evenBesideEachClaim() {
        dueAwards(three(1), EVEN, 1, 3, 1, 3, 1, 3);
        dueAwards(three(29), EVEN, 29, 3, 29, 3, 29, 3);
        dueWhole(three(30), EVEN, 10, 10, 10);
        dueAwards(three(31), EVEN, 10, 1, 21, 2, 21, 2);
        dueAwards(three(49), EVEN, 10, 1, 39, 2, 39, 2);
        dueWhole(three(50), EVEN, 10, 20, 20);
        dueWhole(three(51), EVEN, 10, 20, 21);
        dueWhole(three(59), EVEN, 10, 20, 29);
    }

    @Says(promise = 0, value = "1 LOSS: each CLAIM less one LEVEL for all, 0 at least.")
    void lossBesideEachClaim() {
        dueWhole(three(1), LOSS, 0, 0, 1);
        dueWhole(three(10), LOSS, 0, 0, 10);
        dueAwards(three(11), LOSS, 0, 1, 1, 2, 21, 2);
        dueAwards(three(29), LOSS, 0, 1, 19, 2, 39, 2);
        dueWhole(three(30), LOSS, 0, 10, 20);
        dueAwards(three(31), LOSS, 1, 3, 31, 3, 61, 3);
        dueAwards(three(59), LOSS, 29, 3, 59, 3, 89, 3);
    }

    @Says(promise = 0, value = "2 SHARE: E times CLAIM by ALL.")
    void shareByClaims() {
        dueAwards(three(1), SHARE, 1, 6, 1, 3, 1, 2);
        dueAwards(three(59), SHARE, 59, 6, 59, 3, 59, 2);
        dueAwards(of(359, 60, 60, 60, 60, 60, 60), SHARE, 359, 6, 359, 6, 359, 6, 359, 6, 359, 6, 359, 6);
        dueAwards(of(7, 1, 60, 60, 60, 60, 60), SHARE, 1, 43, 60, 43, 60, 43, 60, 43, 60, 43, 60, 43);
    }

    @Says(promise = 0, value = "3 TALMUD: if E is half of ALL or less, EVEN of E by halves of all CLAIMS;"
            + " else CLAIM less what EVEN by halves gives of (ALL less E).")
    void talmudBesideHalf() {
        dueWhole(three(15), TALMUD, 5, 5, 5);
        dueAwards(three(16), TALMUD, 5, 1, 11, 2, 11, 2);
        dueWhole(three(29), TALMUD, 5, 10, 14);
        dueWhole(three(30), TALMUD, 5, 10, 15);
        dueWhole(three(31), TALMUD, 5, 10, 16);
        dueAwards(three(44), TALMUD, 5, 1, 29, 2, 49, 2);
        dueWhole(three(45), TALMUD, 5, 15, 25);
        dueAwards(three(46), TALMUD, 16, 3, 46, 3, 76, 3);
    }

    @Says(promise = 0, value = "3 TALMUD: if E is half of ALL or less, EVEN of E by halves of all CLAIMS;"
            + " else CLAIM less what EVEN by halves gives of (ALL less E).")
    void talmudOfOddClaims() {
        dueAwards(of(1, 1, 2), TALMUD, 1, 2, 1, 2);
        dueAwards(of(2, 1, 2), TALMUD, 1, 2, 3, 2);
        dueAwards(of(1, 1, 1, 1), TALMUD, 1, 3, 1, 3, 1, 3);
        dueAwards(of(2, 1, 1, 1), TALMUD, 2, 3, 2, 3, 2, 3);
        dueAwards(of(4, 1, 3, 5), TALMUD, 1, 2, 3, 2, 2, 1);
        dueAwards(of(5, 1, 3, 5), TALMUD, 1, 2, 3, 2, 3, 1);
    }

    @Says(promise = 0, value = "4 TURNED: if E is half of ALL or less, LOSS of E by halves of all CLAIMS;"
            + " else half of CLAIM, and EVEN of (E less half of ALL) by halves.")
    void turnedBesideHalf() {
        dueWhole(three(5), TURNED, 0, 0, 5);
        dueAwards(three(6), TURNED, 0, 1, 1, 2, 11, 2);
        dueWhole(three(15), TURNED, 0, 5, 10);
        dueAwards(three(29), TURNED, 14, 3, 29, 3, 44, 3);
        dueWhole(three(30), TURNED, 5, 10, 15);
        dueAwards(three(31), TURNED, 16, 3, 31, 3, 46, 3);
        dueWhole(three(45), TURNED, 10, 15, 20);
        dueAwards(three(46), TURNED, 10, 1, 31, 2, 41, 2);
        dueWhole(three(55), TURNED, 10, 20, 25);
    }

    @Says(promise = 0, value = "4 TURNED: if E is half of ALL or less, LOSS of E by halves of all CLAIMS;"
            + " else half of CLAIM, and EVEN of (E less half of ALL) by halves.")
    void turnedOfOddClaims() {
        dueAwards(of(1, 1, 2), TURNED, 1, 4, 3, 4);
        dueAwards(of(2, 1, 2), TURNED, 3, 4, 5, 4);
        dueAwards(of(1, 1, 1, 1), TURNED, 1, 3, 1, 3, 1, 3);
        dueAwards(of(2, 1, 1, 1), TURNED, 2, 3, 2, 3, 2, 3);
        dueAwards(of(4, 1, 3, 5), TURNED, 1, 3, 4, 3, 7, 3);
        dueAwards(of(5, 1, 3, 5), TURNED, 2, 3, 5, 3, 8, 3);
    }

    @Says(promise = 0, value = "5 ARRIVAL: of all orders in which they can arrive, each alike likely, the mean of what"
            + " one gets who takes the lesser of CLAIM and what all ahead have left.")
    void arrivalInAllOrders() {
        dueAwards(three(1), ARRIVAL, 1, 3, 1, 3, 1, 3);
        dueWhole(three(30), ARRIVAL, 5, 10, 15);
        dueAwards(three(31), ARRIVAL, 31, 6, 61, 6, 47, 3);
        dueAwards(three(59), ARRIVAL, 29, 3, 59, 3, 89, 3);
        dueAwards(of(5, 7, 3), ARRIVAL, 7, 2, 3, 2);
        dueWhole(of(5, 9), ARRIVAL, 5);
        dueAwards(of(1, 60, 60, 60, 60, 60, 60), ARRIVAL, 1, 6, 1, 6, 1, 6, 1, 6, 1, 6, 1, 6);
        dueAwards(of(100, 10, 20, 30, 40, 50, 60), ARRIVAL, 29, 6, 19, 2, 29, 2, 115, 6, 71, 3, 85, 3);
    }

    @Says(promise = 0, value = "(There are such LEVELS, and AWARDS are the same by any of them.)")
    void awardsOfNothing() {
        for (int rule = 0; rule < RULES; rule++) {
            dueWhole(three(0), rule, 0, 0, 0);
            dueWhole(of(0, 1), rule, 0);
            dueWhole(of(0, 60, 60, 60, 60, 60, 60), rule, 0, 0, 0, 0, 0, 0);
        }
    }

    @Says(promise = 0, value = "(There are such LEVELS, and AWARDS are the same by any of them.)")
    void awardsOfAll() {
        for (int rule = 0; rule < RULES; rule++) {
            dueWhole(three(60), rule, 10, 20, 30);
            dueWhole(of(1, 1), rule, 1);
            dueWhole(of(60, 60), rule, 60);
            dueWhole(of(360, 60, 60, 60, 60, 60, 60), rule, 60, 60, 60, 60, 60, 60);
            dueWhole(of(21, 1, 2, 3, 4, 5, 6), rule, 1, 2, 3, 4, 5, 6);
        }
    }

    @Says(promise = 0, value = "AWARDS by a RULE of an ESTATE E (perhaps a fraction, ALL at most) among some with CLAIMS:"
            + " fractions, together E.")
    void awardsAreTogetherTheEstate() {
        for (int[] claims : GROUPS) {
            int all = of(0, claims).told(1);
            for (int e = 0; e <= all; e++) {
                dueTogether(of(e, claims), e, claims);
            }
        }
    }

    private void dueTogether(EstateVessels x, int estate, int[] claims) {
        for (int rule = 0; rule < RULES; rule++) {
            // A number that all of what stands below the line goes into.
            long common = 720L * x.told(1);
            long sum = 0;
            for (int i = 0; i < claims.length; i++) {
                long above = x.award(rule, i, 0);
                long below = x.award(rule, i, 1);
                due("above 0 below the line, in lowest terms", below > 0 ? divisor(above, below) : 0, 1);
                due("into the common one", common % below, 0);
                due("claim at most", above <= claims[i] * below && above >= 0 ? 1 : 0, 1);
                sum += common / below * above;
            }
            due("together by rule " + rule + " of " + estate, sum, estate * common);
        }
    }

    private static long divisor(long a, long b) {
        return b == 0 ? a : divisor(b, a % b);
    }

    // ---- award, cut, dual

    @Says(promise = 10, value = "AWARD by a RULE; part 0 above, 1 below the line.")
    void awardOfEachClaimant() {
        EstateVessels x = of(10, 1, 2, 3, 4, 5, 6);
        x.rule(SHARE);
        // By the rule that is asked for, not by THE RULE.
        dueAwards(x, EVEN, 1, 1, 9, 5, 9, 5, 9, 5, 9, 5, 9, 5);
        dueAwards(x, SHARE, 10, 21, 20, 21, 10, 7, 40, 21, 50, 21, 20, 7);
    }

    @Says(promise = 0, value = "Fractions: in lowest terms, above 0 below the line.")
    void nothingByOne() {
        for (int rule = 0; rule < RULES; rule++) {
            due("0 above", of(0, 7, 9).award(rule, 1, 0), 0);
            due("1 below", of(0, 7, 9).award(rule, 1, 1), 1);
            due("4 above", of(8, 8, 8).award(rule, 1, 0), 4);
            due("4 below", of(8, 8, 8).award(rule, 1, 1), 1);
        }
    }

    @Says(promise = 10, value = "NO: rule")
    void awardByNoRule() {
        for (int rule : NO_RULE) {
            due("award by " + rule, three(30).award(rule, 0, 0), NO);
        }
    }

    @Says(promise = 10, value = "claimant")
    void awardOfNoClaimant() {
        EstateVessels x = three(30);
        for (int i : noClaimant(x)) {
            due("award of " + i, x.award(EVEN, i, 0), NO);
        }
        due("of none", new EstateVessels().award(EVEN, 0, 0), NO);
    }

    @Says(promise = 10, value = "part")
    void awardOfNoPart() {
        for (int part : NO_PART) {
            due("part " + part, three(30).award(EVEN, 0, part), NO);
        }
    }

    @Says(promise = 10, value = "not READY.")
    void awardWhenNotReady() {
        EstateVessels x = notReady();
        for (int rule = 0; rule < RULES; rule++) {
            due("above", x.award(rule, 0, 0), NO);
            due("below", x.award(rule, 0, 1), NO);
        }
        x.estate(60);
        due("of all", x.award(EVEN, 0, 0), 10);
    }

    @Says(promise = 11, value = "CUT.")
    void awardsCut() {
        EstateVessels x = three(29);
        due("29/3", x.cut(EVEN, 0), 9);
        due("0", x.cut(LOSS, 0), 0);
        due("19/2", x.cut(LOSS, 1), 9);
        due("29/6", x.cut(SHARE, 0), 4);
        due("14", x.cut(TALMUD, 2), 14);
        due("14/3", x.cut(TURNED, 0), 4);
        due("1/3", three(1).cut(ARRIVAL, 2), 0);
        due("59/6", three(59).cut(SHARE, 0), 9);
        due("10", three(60).cut(ARRIVAL, 0), 10);
        due("59/60", of(59, 1, 59).cut(SHARE, 0), 0);
        due("60", of(60, 60).cut(TURNED, 0), 60);
        for (int rule = 0; rule < RULES; rule++) {
            due("1 of 1", of(1, 1).cut(rule, 0), 1);
            due("5 of one alone", of(5, 9).cut(rule, 0), 5);
        }
    }

    @Says(promise = 11, value = "BAD: rule")
    void cutByNoRule() {
        for (int rule : NO_RULE) {
            due("cut by " + rule, three(30).cut(rule, 0), BAD);
        }
    }

    @Says(promise = 11, value = "NONE: claimant")
    void cutOfNoClaimant() {
        EstateVessels x = three(30);
        for (int i : noClaimant(x)) {
            due("cut of " + i, x.cut(EVEN, i), NONE);
        }
    }

    @Says(promise = 11, value = "STATE: not READY.")
    void cutWhenNotReady() {
        for (int rule = 0; rule < RULES; rule++) {
            due("cut by " + rule, notReady().cut(rule, 2), STATE);
        }
    }

    @Says(promise = 11, value = {"BAD: rule", "NONE: claimant", "STATE: not READY."})
    void cutInOrder() {
        due("rule, claimant, not ready", notReady().cut(6, 3), BAD);
        due("rule, not ready", notReady().cut(-1, 0), BAD);
        due("rule, claimant", three(30).cut(6, -1), BAD);
        due("claimant, not ready", notReady().cut(0, 3), NONE);
        due("none at all", new EstateVessels().cut(0, 0), NONE);
        due("rule of none at all", new EstateVessels().cut(6, 0), BAD);
    }

    @Says(promise = 0, value = "DUAL by a RULE: CLAIM less what the RULE would give of (ALL less E).")
    void dualOfAllLess() {
        int[] turned = {LOSS, EVEN, SHARE, TALMUD, TURNED, ARRIVAL};
        for (int e = 0; e <= 60; e++) {
            EstateVessels x = three(e);
            for (int rule = 0; rule < RULES; rule++) {
                for (int i = 0; i < 3; i++) {
                    due("above of " + e, x.dual(rule, i, 0), x.award(turned[rule], i, 0));
                    due("below of " + e, x.dual(rule, i, 1), x.award(turned[rule], i, 1));
                }
            }
        }
    }

    @Says(promise = 12, value = "DUAL; part likewise.")
    void dualOfNothingAndOfAll() {
        for (int rule = 0; rule < RULES; rule++) {
            due("of nothing, above", three(0).dual(rule, 2, 0), 0);
            due("of nothing, below", three(0).dual(rule, 2, 1), 1);
            due("of all, above", three(60).dual(rule, 2, 0), 30);
            due("of all, below", three(60).dual(rule, 2, 1), 1);
        }
        due("of one, above", three(1).dual(EVEN, 2, 0), 1);
        due("of one, below", three(1).dual(LOSS, 2, 1), 3);
    }

    @Says(promise = 12, value = "NO: rule, claimant, part")
    void dualOfNone() {
        EstateVessels x = three(30);
        for (int rule : NO_RULE) {
            due("rule " + rule, x.dual(rule, 0, 0), NO);
        }
        for (int i : noClaimant(x)) {
            due("claimant " + i, x.dual(EVEN, i, 0), NO);
        }
        for (int part : NO_PART) {
            due("part " + part, x.dual(EVEN, 0, part), NO);
        }
    }

    @Says(promise = 12, value = "not READY.")
    void dualWhenNotReady() {
        due("61 of 60", notReady().dual(EVEN, 0, 0), NO);
        due("none at all", new EstateVessels().dual(EVEN, 0, 0), NO);
    }

    // ---- alone, consistent

    @Says(promise = 13, value = "What i gets of both AWARDS together, of two alone; part likewise.")
    void aloneOfBothTogether() {
        EstateVessels x = of(20, 10, 20, 30, 7);
        // Arrival gives 0 and 1 of four 10/3 and 43/6: 21/2 together; 0 gets 10 ahead of 1, 0 behind it.
        due("0 with 1, above", x.alone(ARRIVAL, 0, 1, 0), 5);
        due("0 with 1, below", x.alone(ARRIVAL, 0, 1, 1), 1);
        due("1 with 0, above", x.alone(ARRIVAL, 1, 0, 0), 11);
        due("1 with 0, below", x.alone(ARRIVAL, 1, 0, 1), 2);
        due("share of 3 with 0, above", x.alone(SHARE, 3, 0, 0), 140);
        due("share of 3 with 0, below", x.alone(SHARE, 3, 0, 1), 67);
    }

    @Says(promise = 13, value = "What i gets of both AWARDS together, of two alone; part likewise.")
    void aloneOfNothingAndOfAll() {
        for (int rule = 0; rule < RULES; rule++) {
            due("of nothing, above", three(0).alone(rule, 2, 0, 0), 0);
            due("of nothing, below", three(0).alone(rule, 2, 0, 1), 1);
            due("of all, above", three(60).alone(rule, 2, 0, 0), 30);
            due("of all, below", three(60).alone(rule, 2, 0, 1), 1);
            due("of half, above", three(30).alone(rule == TURNED ? rule : TALMUD, 0, 1, 0), 5);
        }
    }

    @Says(promise = 13, value = "NO: rule, i, j")
    void aloneOfNone() {
        EstateVessels x = three(30);
        for (int rule : NO_RULE) {
            due("rule " + rule, x.alone(rule, 0, 1, 0), NO);
        }
        for (int i : noClaimant(x)) {
            due("i " + i, x.alone(EVEN, i, 0, 0), NO);
            due("j " + i, x.alone(EVEN, 0, i, 0), NO);
            due("both " + i, x.alone(EVEN, i, i, 0), NO);
        }
    }

    @Says(promise = 13, value = "one twice")
    void oneTwice() {
        for (int i = 0; i < 3; i++) {
            due("with itself", three(30).alone(EVEN, i, i, 0), NO);
        }
    }

    @Says(promise = 13, value = "part")
    void aloneOfNoPart() {
        for (int part : NO_PART) {
            due("part " + part, three(30).alone(EVEN, 0, 1, part), NO);
        }
    }

    @Says(promise = 13, value = "not READY.")
    void aloneWhenNotReady() {
        due("61 of 60", notReady().alone(EVEN, 0, 1, 0), NO);
        due("none at all", new EstateVessels().alone(EVEN, 0, 1, 0), NO);
    }

    @Says(promise = 0, value = "SAME by a RULE for i, j: what i gets by that RULE of both AWARDS together, of two alone,"
            + " is i's AWARD. CONSISTENT: so for all twos.")
    void consistentRules() {
        for (int[] claims : GROUPS) {
            int all = of(0, claims).told(1);
            for (int e = 0; e <= all; e++) {
                EstateVessels x = of(e, claims);
                for (int rule = 0; rule < ARRIVAL; rule++) {
                    due("rule " + rule + " of " + e, x.consistent(rule), NOT_THERE);
                }
            }
        }
    }

    @Says(promise = 14, value = "CONSISTENT: -5")
    void consistentWithoutTwo() {
        for (int rule = 0; rule < RULES; rule++) {
            due("one alone", of(3, 9).consistent(rule), NOT_THERE);
            due("two alone", of(3, 9, 2).consistent(rule), NOT_THERE);
            due("of nothing", three(0).consistent(rule), NOT_THERE);
            due("of all", three(60).consistent(rule), NOT_THERE);
        }
    }

    @Says(promise = 14, value = "else the first two (10 i + j, i below j, by i, then by j) that aren't SAME.")
    void firstTwoThatAreNot() {
        due("01", of(5, 3, 4, 2).consistent(ARRIVAL), 1);
        due("02", of(8, 5, 6, 1).consistent(ARRIVAL), 2);
        due("03", of(8, 6, 2, 6, 5).consistent(ARRIVAL), 3);
        due("04", of(4, 5, 4, 6, 4, 3).consistent(ARRIVAL), 4);
        due("05", of(3, 4, 4, 4, 4, 3, 2).consistent(ARRIVAL), 5);
        due("12", of(9, 2, 6, 4, 5).consistent(ARRIVAL), 12);
        due("13", of(7, 2, 4, 4, 3).consistent(ARRIVAL), 13);
        due("15", of(7, 1, 3, 3, 3, 3, 2).consistent(ARRIVAL), 15);
        due("23", of(9, 1, 2, 4, 5, 5).consistent(ARRIVAL), 23);
        due("24", of(7, 1, 1, 4, 4, 5).consistent(ARRIVAL), 24);
        due("25", of(8, 1, 1, 3, 3, 3, 6).consistent(ARRIVAL), 25);
        due("34", of(9, 1, 1, 1, 5, 6, 5).consistent(ARRIVAL), 34);
        due("35", of(9, 1, 1, 1, 5, 5, 4).consistent(ARRIVAL), 35);
    }

    @Says(promise = 14, value = "BAD: rule")
    void consistentByNoRule() {
        for (int rule : NO_RULE) {
            due("rule " + rule, three(30).consistent(rule), BAD);
            due("not ready, rule " + rule, notReady().consistent(rule), BAD);
        }
    }

    @Says(promise = 14, value = "STATE: not READY.")
    void consistentWhenNotReady() {
        for (int rule = 0; rule < RULES; rule++) {
            due("61 of 60", notReady().consistent(rule), STATE);
            due("none at all", new EstateVessels().consistent(rule), STATE);
        }
    }

    // ---- change

    private void dueChange(EstateVessels x, int rule, int i, int v, int j, long above, long below) {
        String call = "of " + j + " by " + i + " and " + v;
        due("above " + call, x.change(rule, i, v, j, 0), above);
        due("below " + call, x.change(rule, i, v, j, 1), below);
    }

    @Says(promise = 15, value = "CHANGE of j by i and v; part likewise.")
    void changeByClaim() {
        // Even: 20/3 each; were claim 0 just 5, the others had 15/2.
        dueChange(three(20), EVEN, 0, 5, 1, 5, 6);
        dueChange(three(20), EVEN, 0, 5, 0, -5, 3);
        dueChange(three(20), SHARE, 0, 30, 2, -5, 2);
        dueChange(three(20), SHARE, 0, 60, 0, 250, 33);
        dueChange(three(20), SHARE, 0, 1, 0, -50, 17);
        dueChange(three(20), ARRIVAL, 2, 1, 2, -47, 6);
    }

    @Says(promise = 15, value = "CHANGE of j by i and v; part likewise.")
    void noChange() {
        for (int rule = 0; rule < RULES; rule++) {
            dueChange(three(20), rule, 1, 20, 1, 0, 1);
            dueChange(three(20), rule, 1, 20, 2, 0, 1);
            dueChange(three(0), rule, 0, 60, 0, 0, 1);
        }
        dueChange(three(20), EVEN, 2, 60, 0, 0, 1);
    }

    @Says(promise = 15, value = "NO: rule, i")
    void changeByNone() {
        EstateVessels x = three(20);
        for (int rule : NO_RULE) {
            due("rule " + rule, x.change(rule, 0, 5, 0, 0), NO);
        }
        for (int i : noClaimant(x)) {
            due("i " + i, x.change(EVEN, i, 5, 0, 0), NO);
        }
    }

    @Says(promise = 15, value = "v (1 .. 60)")
    void changeToNoClaim() {
        EstateVessels x = three(20);
        for (int v : new int[] {0, -1, 61, 62, LEAST, MOST}) {
            due("v " + v, x.change(EVEN, 0, v, 0, 0), NO);
        }
        due("1", x.change(EVEN, 0, 1, 1, 1), 6);
        due("60", x.change(EVEN, 0, 60, 1, 1), 1);
    }

    @Says(promise = 15, value = "j, part")
    void changeOfNone() {
        EstateVessels x = three(20);
        for (int j : noClaimant(x)) {
            due("j " + j, x.change(EVEN, 0, 5, j, 0), NO);
        }
        for (int part : NO_PART) {
            due("part " + part, x.change(EVEN, 0, 5, 0, part), NO);
        }
    }

    @Says(promise = 15, value = "not READY (now, or then).")
    void changeWhenNotReadyNow() {
        due("61 of 60", notReady().change(EVEN, 0, 60, 0, 0), NO);
        due("60 of 60", three(60).change(EVEN, 0, 60, 0, 1), 1);
        due("none at all", new EstateVessels().change(EVEN, 0, 60, 0, 0), NO);
    }

    @Says(promise = 15, value = "not READY (now, or then).")
    void changeWhenNotReadyThen() {
        due("55 of 55", three(55).change(EVEN, 0, 5, 0, 0), -5);
        due("55 of 54", three(55).change(EVEN, 0, 4, 0, 0), NO);
        due("55 of 54, below", three(55).change(EVEN, 0, 4, 0, 1), NO);
        due("60 of 60", three(60).change(EVEN, 2, 30, 0, 0), 0);
        due("60 of 59", three(60).change(EVEN, 2, 29, 0, 0), NO);
    }

    // ---- inverse, bends

    @Says(promise = 0, value = "INVERSE of a CLAIMANT and v (0 .. 60): the least whole ESTATE 0 .. ALL by which its AWARD"
            + " is v at least (-5: none).")
    void inverseOfNothingAndOfClaim() {
        for (int rule = 0; rule < RULES; rule++) {
            due("0", three(0).inverse(rule, 1, 0), 0);
            due("its claim and 1", three(0).inverse(rule, 1, 21), NOT_THERE);
            due("60", three(0).inverse(rule, 1, 60), NOT_THERE);
            due("the claim of one alone", of(0, 60).inverse(rule, 0, 60), 60);
            due("1 of 1", of(0, 1).inverse(rule, 0, 1), 1);
            due("2 of 1", of(0, 1).inverse(rule, 0, 2), NOT_THERE);
        }
        int[] byClaim = {50, 60, 60, 60, 55, 60};
        for (int rule = 0; rule < RULES; rule++) {
            due("its claim", three(0).inverse(rule, 1, 20), byClaim[rule]);
        }
    }

    @Says(promise = 0, value = "INVERSE of a CLAIMANT and v (0 .. 60): the least whole ESTATE 0 .. ALL by which its AWARD"
            + " is v at least (-5: none).")
    void inverseBesideAward() {
        due("even 9 by 27", three(0).inverse(EVEN, 2, 9), 27);
        due("even 10 by 30", three(0).inverse(EVEN, 2, 10), 30);
        due("even 11 by 32", three(0).inverse(EVEN, 2, 11), 32);
        due("even 21 by 51", three(0).inverse(EVEN, 2, 21), 51);
        due("loss 1 by 33", three(0).inverse(LOSS, 0, 1), 33);
        due("loss 10 by 60", three(0).inverse(LOSS, 0, 10), 60);
        due("share 1 by 6", three(0).inverse(SHARE, 0, 1), 6);
        due("share 7 of 30 by 14", three(0).inverse(SHARE, 2, 7), 14);
        due("talmud 5 by 15", three(0).inverse(TALMUD, 0, 5), 15);
        due("talmud 6 by 48", three(0).inverse(TALMUD, 0, 6), 48);
        due("turned 10 by 45", three(0).inverse(TURNED, 0, 10), 45);
    }

    @Says(promise = 0, value = "INVERSE, BENDS, ODDS are asked whether it is READY or not.")
    void inverseAndBendsOfAnyEstate() {
        for (int estate : new int[] {0, 30, 60, 61, 360}) {
            EstateVessels x = three(estate);
            due("inverse", x.inverse(EVEN, 2, 21), 51);
            due("bends", x.bends(EVEN, 2), 2);
            due("odds above", x.odds(SHARE, 2, 0), 31);
            due("odds below", x.odds(SHARE, 2, 1), 61);
        }
    }

    @Says(promise = 16, value = "BAD: rule")
    void inverseByNoRule() {
        for (int rule : NO_RULE) {
            due("rule " + rule, three(0).inverse(rule, 0, 1), BAD);
        }
    }

    @Says(promise = 16, value = "NONE: claimant")
    void inverseOfNoClaimant() {
        EstateVessels x = three(0);
        for (int i : noClaimant(x)) {
            due("claimant " + i, x.inverse(EVEN, i, 1), NONE);
        }
    }

    @Says(promise = 16, value = "BAD: v.")
    void inverseOfNoSuchV() {
        for (int v : new int[] {-1, -2, 61, 62, LEAST, MOST}) {
            due("v " + v, three(0).inverse(EVEN, 0, v), BAD);
        }
    }

    @Says(promise = 16, value = "INVERSE; -5. BAD: rule; NONE: claimant; BAD: v.")
    void inverseInOrder() {
        due("rule, claimant, v", three(0).inverse(6, 3, 61), BAD);
        due("rule, claimant", three(0).inverse(6, 3, 1), BAD);
        due("claimant, v", three(0).inverse(0, 3, 61), NONE);
        due("claimant of none, v", new EstateVessels().inverse(0, 0, -1), NONE);
    }

    @Says(promise = 0, value = "BENDS: how many whole ESTATES E 1 .. ALL less 1 there are, such that AWARD by E + 1 less"
            + " AWARD by E isn't AWARD by E less AWARD by E - 1.")
    void bendsFromOneToAllLessOne() {
        // By 0 .. 3: 0, 1/2, 1, 2.
        due("at all less 1", of(0, 1, 2).bends(EVEN, 1), 1);
        // By 0 .. 3: 0, 1, 3/2, 2.
        due("at 1", of(0, 1, 2).bends(LOSS, 1), 1);
        due("at 1 and 2", of(0, 1, 2).bends(TALMUD, 0), 2);
        due("of 1 alone", of(0, 1).bends(EVEN, 0), 0);
        due("of 2 alone", of(0, 2).bends(ARRIVAL, 0), 0);
        for (int rule = 0; rule < RULES; rule++) {
            due("of two of 1", of(0, 1, 1).bends(rule, 0), 0);
            due("of one alone", of(0, 60).bends(rule, 0), 0);
            due("of two of 60", of(0, 60, 60).bends(rule, 0), 0);
        }
    }

    @Says(promise = 17, value = "BENDS.")
    void bendsOfThree() {
        int[][] bends = {{1, 2, 2}, {1, 2, 2}, {0, 0, 0}, {2, 4, 4}, {2, 4, 4}};
        for (int rule = 0; rule < ARRIVAL; rule++) {
            for (int i = 0; i < 3; i++) {
                due("of " + i + " by " + rule, three(0).bends(rule, i), bends[rule][i]);
            }
        }
    }

    @Says(promise = 17, value = "BENDS.")
    void bendsOfTwoByArrival() {
        // By 0, 1, .. 5, 6: 0, 1/2, .. 1/2, 1 and 0, 1/2, 3/2, .. 9/2, 5.
        due("of 1", of(0, 1, 5).bends(ARRIVAL, 0), 2);
        due("of 5", of(0, 1, 5).bends(ARRIVAL, 1), 2);
    }

    @Says(promise = 17, value = "BAD: rule")
    void bendsByNoRule() {
        for (int rule : NO_RULE) {
            due("rule " + rule, three(0).bends(rule, 0), BAD);
            due("rule " + rule + " of no claimant", three(0).bends(rule, 3), BAD);
        }
    }

    @Says(promise = 17, value = "NONE: claimant.")
    void bendsOfNoClaimant() {
        EstateVessels x = three(0);
        for (int i : noClaimant(x)) {
            due("claimant " + i, x.bends(EVEN, i), NONE);
        }
        due("of none", new EstateVessels().bends(EVEN, 0), NONE);
    }

    // ---- like, sore

    @Says(promise = 0, value = "LIKE: BITS of RULES (2 to each, together) by which all AWARDS are as by this one"
            + " (itself among them).")
    void likeAllOrItself() {
        for (int rule = 0; rule < RULES; rule++) {
            due("of nothing", three(0).like(rule), 63);
            due("of all", three(60).like(rule), 63);
            due("of one alone", of(3, 9).like(rule), 63);
            due("of likes", of(7, 5, 5, 5).like(rule), 63);
            due("each other than all others", three(20).like(rule), 1 << rule);
        }
    }

    @Says(promise = 0, value = "LIKE: BITS of RULES (2 to each, together) by which all AWARDS are as by this one"
            + " (itself among them).")
    void likeSome() {
        int half = (1 << SHARE) + (1 << TALMUD) + (1 << TURNED) + (1 << ARRIVAL);
        due("share by half", three(30).like(SHARE), half);
        due("arrival by half", three(30).like(ARRIVAL), half);
        due("even by half", three(30).like(EVEN), 1);
        due("loss by half", three(30).like(LOSS), 1 << LOSS);
        due("talmud of two", of(12, 10, 20).like(TALMUD), (1 << TALMUD) + (1 << ARRIVAL));
        // What one gets is as by the other rule, what another gets isn't.
        due("even of a little", three(15).like(EVEN), (1 << EVEN) + (1 << TALMUD));
        due("even of a bit more", three(16).like(EVEN), 1);
    }

    @Says(promise = 18, value = "LIKE (BITS).")
    void bitsOfLike() {
        EstateVessels x = three(30);
        x.rule(LOSS);
        // Of the rule that is asked for, not of THE RULE.
        int[] bits = {1, 2, 60, 60, 60, 60};
        for (int rule = 0; rule < RULES; rule++) {
            due("by half, rule " + rule, x.like(rule), bits[rule]);
        }
    }

    @Says(promise = 18, value = "BAD: rule")
    void likeNoRule() {
        for (int rule : NO_RULE) {
            due("rule " + rule, three(0).like(rule), BAD);
            due("not ready, rule " + rule, notReady().like(rule), BAD);
        }
    }

    @Says(promise = 18, value = "STATE: not READY.")
    void likeWhenNotReady() {
        due("61 of 60", notReady().like(EVEN), STATE);
        due("none at all", new EstateVessels().like(EVEN), STATE);
    }

    private void dueOrder(EstateVessels x, int rule, int... order) {
        for (int k = 0; k < order.length; k++) {
            due(k + " by rule " + rule, x.sore(rule, k), order[k]);
        }
    }

    @Says(promise = 0, value = "SORE by a RULE: CLAIMANTS by CLAIM less AWARD, the greatest first")
    void sorestFirst() {
        dueOrder(of(50, 10, 20, 30, 7), EVEN, 2, 1, 0, 3);
        dueOrder(of(10, 20, 30, 10), EVEN, 1, 0, 2);
        dueOrder(of(40, 20, 30, 10), SHARE, 1, 0, 2);
        for (int rule = 0; rule < RULES; rule++) {
            dueOrder(of(239, 30, 60, 40, 50, 60), rule, 1, 4, 3, 2, 0);
            dueOrder(of(3, 30, 60, 40, 50, 60), rule, 1, 4, 3, 2, 0);
        }
        // 2/5 and 3/5 are lost: they aren't cut.
        dueOrder(of(4, 2, 3), SHARE, 1, 0);
    }

    @Says(promise = 0, value = "of several the greatest CLAIM first")
    void sorestByClaim() {
        // All lose 10 alike.
        dueOrder(of(30, 10, 20, 30), LOSS, 2, 1, 0);
        dueOrder(of(60, 20, 10, 30), LOSS, 2, 0, 1);
        // 30, 40 and 50 lose 10, 5 and 3 lose 5 and 3.
        dueOrder(of(90, 30, 5, 40, 3, 50), LOSS, 4, 2, 0, 1, 3);
    }

    @Says(promise = 0, value = "of several the least number.")
    void sorestByNumber() {
        dueOrder(of(7, 5, 5, 5), EVEN, 0, 1, 2);
        dueOrder(of(0, 5, 9, 5, 9), TURNED, 1, 3, 0, 2);
        dueOrder(of(360, 60, 60, 60, 60, 60, 60), ARRIVAL, 0, 1, 2, 3, 4, 5);
    }

    @Says(promise = 19, value = "The k-th (from 0) by SORE.")
    void firstAndLastBySore() {
        due("the first of one", of(1, 2).sore(EVEN, 0), 0);
        EstateVessels x = of(6, 1, 2, 3, 4, 5, 6);
        dueOrder(x, EVEN, 5, 4, 3, 2, 1, 0);
    }

    @Says(promise = 19, value = "BAD: rule")
    void soreByNoRule() {
        for (int rule : NO_RULE) {
            due("rule " + rule, three(0).sore(rule, 0), BAD);
            due("k, rule " + rule, three(0).sore(rule, 3), BAD);
            due("not ready, rule " + rule, notReady().sore(rule, 0), BAD);
        }
    }

    @Says(promise = 19, value = "NONE: k")
    void noSuchSore() {
        EstateVessels x = three(0);
        for (int k : noClaimant(x)) {
            due("k " + k, x.sore(EVEN, k), NONE);
            due("not ready, k " + k, notReady().sore(EVEN, k), NONE);
        }
        due("k 0 of none", new EstateVessels().sore(EVEN, 0), NONE);
    }

    @Says(promise = 19, value = "STATE: not READY.")
    void soreWhenNotReady() {
        for (int k = 0; k < 3; k++) {
            due("k " + k, notReady().sore(EVEN, k), STATE);
        }
    }
}
