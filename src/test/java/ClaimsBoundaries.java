/** Claims, the estate, the text: promises 1 to 9. */
final class ClaimsBoundaries extends Boundaries {
    private static EstateVessels six() {
        return of(0, 1, 2, 3, 58, 59, 60);
    }

    // ---- a new object

    @Says(promise = 1, value = "No CLAIMANTS.")
    void newHasNoClaimants() {
        EstateVessels x = new EstateVessels();
        due("told(0)", x.told(0), 0);
        due("told(1)", x.told(1), 0);
        due("told(4)", x.told(4), 0);
        for (int i = -1; i <= 6; i++) {
            due("of", x.of(i), NONE);
        }
        due("mean(0)", x.mean(0), NO);
    }

    @Says(promise = 1, value = "No CLAIMANTS.")
    void newIsAloneBesideOthers() {
        EstateVessels x = of(30, 10, 20);
        x.see(0, 1);
        x.event(0, 0);
        x.book(0, 1);
        x.feed('c');
        x.tape(0, 3, 1);
        x.image();
        EstateVessels y = new EstateVessels();
        due("told(0)", y.told(0), 0);
        due("told(2)", y.told(2), 0);
        for (int what = 0; what < 4; what++) {
            due("count", y.count(what), 0);
        }
        due("item", y.item(0, 0, 1), NOTHING);
        due("undo", y.undo(), STATE);
        y.claim(3);
        due("the older one's claim", x.of(0), 10);
        due("the older one's claimants", x.told(0), 2);
    }

    @Says(promise = 0, value = "THE ESTATE: 0 .. 360 (0 at first).")
    void estateIsNothingAtFirst() {
        due("told(2)", new EstateVessels().told(2), 0);
        due("estate(360)", new EstateVessels().estate(360), 0);
        EstateVessels x = new EstateVessels();
        x.claim(1);
        due("award", x.award(EVEN, 0, 0), 0);
    }

    @Says(promise = 0, value = "r RULE (THE RULE, 0 at first, is that)")
    void ruleIsEvenAtFirst() {
        due("told(3)", new EstateVessels().told(3), 0);
        due("rule(5)", new EstateVessels().rule(5), 0);
        EstateVessels x = of(9, 4, 20);
        x.book(0, 4);
        due("looked by EVEN", x.looked(), NOT_THERE);
    }

    @Says(promise = 0, value = "`NO = Long.MIN_VALUE`: There is no such number.")
    void constants() {
        due("NO", EstateVessels.NO, NO);
        due("NONE", EstateVessels.NONE, -1);
        due("BAD", EstateVessels.BAD, -2);
        due("STATE", EstateVessels.STATE, -3);
        due("FULL", EstateVessels.FULL, -4);
    }

    // ---- claim

    @Says(promise = 2, value = "A CLAIMANT comes: its number.")
    void claimantsCome() {
        EstateVessels x = new EstateVessels();
        for (int k = 0; k < 6; k++) {
            due("claim", x.claim(10 * k + 5), k);
            due("claimants", x.told(0), k + 1);
        }
        for (int k = 0; k < 6; k++) {
            due("of", x.of(k), 10 * k + 5);
        }
    }

    @Says(promise = 0, value = "CLAIMANTS 0 .. 5, as they come, each with a CLAIM (1 .. 60).")
    void eachClaimCanBe() {
        for (int claim = 1; claim <= 60; claim++) {
            EstateVessels x = new EstateVessels();
            due("claim", x.claim(claim), 0);
            due("of", x.of(0), claim);
        }
    }

    @Says(promise = 2, value = "BAD: claim")
    void claimTooSmall() {
        EstateVessels x = of(0, 7);
        for (int claim : new int[] {0, -1, -2, -60, LEAST}) {
            due("claim " + claim, x.claim(claim), BAD);
        }
        due("none came", x.told(0), 1);
        due("all", x.told(1), 7);
        due("the next one's number", x.claim(1), 1);
    }

    @Says(promise = 2, value = "BAD: claim")
    void claimTooLarge() {
        EstateVessels x = of(0, 7);
        for (int claim : new int[] {61, 62, 256, 257, 65537, MOST}) {
            due("claim " + claim, x.claim(claim), BAD);
        }
        due("none came", x.told(0), 1);
        due("all", x.told(1), 7);
        due("the next one's number", x.claim(60), 1);
    }

    @Says(promise = 2, value = "FULL: 6.")
    void sixClaimantsAreAll() {
        EstateVessels x = of(0, 1, 2, 3, 58, 59);
        due("the sixth", x.claim(60), 5);
        due("the seventh", x.claim(4), FULL);
        due("once more", x.claim(60), FULL);
        due("claimants", x.told(0), 6);
        due("all", x.told(1), 183);
        due("of(5)", x.of(5), 60);
        due("of(6)", x.of(6), NONE);
    }

    @Says(promise = 2, value = {"BAD: claim", "FULL: 6."})
    void badClaimAheadOfFull() {
        due("claim(0)", six().claim(0), BAD);
        due("claim(61)", six().claim(61), BAD);
    }

    // ---- renew

    @Says(promise = 3, value = "CLAIM of a CLAIMANT becomes v: what it was.")
    void renewed() {
        EstateVessels x = six();
        due("renew(5, 1)", x.renew(5, 1), 60);
        due("renew(0, 60)", x.renew(0, 60), 1);
        due("renew(0, 60) once more", x.renew(0, 60), 60);
        int[] claims = {60, 2, 3, 58, 59, 1};
        for (int i = 0; i < 6; i++) {
            due("of", x.of(i), claims[i]);
        }
        due("all", x.told(1), 183);
        due("claimants", x.told(0), 6);
        x.estate(6);
        // A claim made small is the least from then on, for each rule of levels.
        dueWhole(x, EVEN, 1, 1, 1, 1, 1, 1);
    }

    @Says(promise = 3, value = "NONE")
    void renewOfNoClaimant() {
        EstateVessels x = of(0, 10, 20);
        for (int i : noClaimant(x)) {
            due("renew " + i, x.renew(i, 5), NONE);
        }
        due("all", x.told(1), 30);
        due("renew of none", new EstateVessels().renew(0, 5), NONE);
    }

    @Says(promise = 3, value = "BAD")
    void renewToNoClaim() {
        EstateVessels x = of(0, 10, 20);
        for (int v : new int[] {0, -1, 61, 62, 256, LEAST, MOST}) {
            due("renew to " + v, x.renew(1, v), BAD);
        }
        due("of", x.of(1), 20);
        due("all", x.told(1), 30);
    }

    @Says(promise = 3, value = {"NONE", "BAD"})
    void renewNoneAheadOfBad() {
        due("renew(2, 0)", of(0, 10, 20).renew(2, 0), NONE);
        due("renew(-1, 61)", of(0, 10, 20).renew(-1, 61), NONE);
    }

    // ---- estate, rule

    @Says(promise = 4, value = "THE ESTATE becomes v: what it was.")
    void estateBecomes() {
        EstateVessels x = of(0, 5);
        due("estate(360)", x.estate(360), 0);
        due("told", x.told(2), 360);
        due("estate(0)", x.estate(0), 360);
        due("told", x.told(2), 0);
        due("estate(1)", x.estate(1), 0);
        due("estate(1)", x.estate(1), 1);
    }

    @Says(promise = 4, value = "BAD")
    void estateTooSmall() {
        EstateVessels x = of(7, 10);
        for (int v : new int[] {-1, -2, -360, LEAST}) {
            due("estate " + v, x.estate(v), BAD);
        }
        due("told", x.told(2), 7);
    }

    @Says(promise = 4, value = "BAD")
    void estateTooLarge() {
        EstateVessels x = of(7, 10);
        for (int v : new int[] {361, 362, 65536, MOST}) {
            due("estate " + v, x.estate(v), BAD);
        }
        due("told", x.told(2), 7);
    }

    @Says(promise = 5, value = "THE RULE becomes so: which it was.")
    void ruleBecomes() {
        EstateVessels x = new EstateVessels();
        int before = 0;
        for (int rule : new int[] {0, 1, 2, 3, 4, 5, 5, 0}) {
            due("rule", x.rule(rule), before);
            due("told", x.told(3), rule);
            before = rule;
        }
    }

    @Says(promise = 5, value = "BAD")
    void noSuchRule() {
        EstateVessels x = new EstateVessels();
        x.rule(4);
        for (int rule : NO_RULE) {
            due("rule " + rule, x.rule(rule), BAD);
        }
        due("told", x.told(3), 4);
    }

    // ---- of, told

    @Says(promise = 6, value = "CLAIM.")
    void claimTold() {
        EstateVessels x = six();
        int[] claims = {1, 2, 3, 58, 59, 60};
        for (int i = 0; i < 6; i++) {
            due("of", x.of(i), claims[i]);
        }
    }

    @Says(promise = 6, value = "NONE.")
    void claimOfNone() {
        EstateVessels x = of(0, 10, 20);
        for (int i : noClaimant(x)) {
            due("of " + i, x.of(i), NONE);
        }
        due("of(6) of six", six().of(6), NONE);
        due("of(0) of none", new EstateVessels().of(0), NONE);
    }

    @Says(promise = 7, value = "What 0 CLAIMANTS, 1 ALL, 2 THE ESTATE, 3 THE RULE, 4 READY (1, 0).")
    void eachIsTold() {
        EstateVessels x = of(182, 1, 2, 3, 58, 59, 60);
        x.rule(5);
        due("claimants", x.told(0), 6);
        due("all", x.told(1), 183);
        due("estate", x.told(2), 182);
        due("rule", x.told(3), 5);
        due("ready", x.told(4), 1);
    }

    @Says(promise = 0, value = "ALL: all CLAIMS, together.")
    void allClaimsTogether() {
        due("of none", new EstateVessels().told(1), 0);
        due("of one", of(0, 1).told(1), 1);
        due("six of 60", of(0, 60, 60, 60, 60, 60, 60).told(1), 360);
        due("six of 1", of(0, 1, 1, 1, 1, 1, 1).told(1), 6);
    }

    @Says(promise = 0, value = "READY: there is a CLAIMANT")
    void notReadyWithoutClaimant() {
        EstateVessels x = new EstateVessels();
        due("none, of nothing", x.told(4), 0);
        x.claim(1);
        due("one, of nothing", x.told(4), 1);
    }

    @Says(promise = 0, value = "THE ESTATE isn't above ALL")
    void readyUpToAll() {
        EstateVessels x = of(29, 10, 20);
        due("below all", x.told(4), 1);
        x.estate(30);
        due("all", x.told(4), 1);
        x.estate(31);
        due("above all", x.told(4), 0);
        x.renew(0, 11);
        due("all, by a greater claim", x.told(4), 1);
        x.renew(0, 10);
        due("above all, by a lesser claim", x.told(4), 0);
        x.claim(1);
        due("all, by one more", x.told(4), 1);
        due("360 of 360", of(360, 60, 60, 60, 60, 60, 60).told(4), 1);
        due("360 of 359", of(360, 60, 60, 60, 60, 60, 59).told(4), 0);
    }

    @Says(promise = 7, value = "NONE.")
    void nothingSuchIsTold() {
        EstateVessels x = of(1, 10);
        for (int what : new int[] {-1, 5, 6, LEAST, MOST}) {
            due("told " + what, x.told(what), NONE);
        }
    }

    // ---- feed

    @Says(promise = 8, value = "A sign (0 .. 127) comes behind THE TEXT's: how many it has.")
    void eachSignComes() {
        for (int from = 0; from < 128; from += 64) {
            EstateVessels x = new EstateVessels();
            for (int k = 0; k < 64; k++) {
                due("feed " + (from + k), x.feed(from + k), k + 1);
            }
            due("count", x.count(3), 64);
        }
    }

    @Says(promise = 8, value = "A sign (0 .. 127) comes behind THE TEXT's: how many it has.")
    void signsComeBehind() {
        EstateVessels x = new EstateVessels();
        x.feed('c');
        x.feed('1');
        x.feed('2');
        due("read", x.read(), 1);
        due("12, not 21", x.of(0), 12);
        due("the first of the next", x.feed('e'), 1);
        due("the second", x.feed('3'), 2);
        due("read", x.read(), 1);
        due("estate", x.told(2), 3);
    }

    @Says(promise = 8, value = "BAD")
    void noSuchSign() {
        EstateVessels x = new EstateVessels();
        x.feed('c');
        for (int sign : new int[] {-1, -2, -128, 128, 129, 256 + 'c', LEAST, MOST}) {
            due("feed " + sign, x.feed(sign), BAD);
        }
        due("count", x.count(3), 1);
        due("the second", x.feed('5'), 2);
        due("read", x.read(), 1);
    }

    @Says(promise = 8, value = "FULL.")
    void hundredSignsAreAll() {
        EstateVessels x = new EstateVessels();
        for (int k = 1; k <= 100; k++) {
            due("feed", x.feed('r'), k);
        }
        due("the 101st", x.feed('5'), FULL);
        due("once more", x.feed('r'), FULL);
        due("count", x.count(3), 100);
        due("read", x.read(), -11);
        due("the first again", x.feed('r'), 1);
    }

    @Says(promise = 0, value = "THE TEXT (bytes, 100 at most)")
    void hundredthSignIsRead() {
        EstateVessels x = new EstateVessels();
        Make.feed(x, "c1;c1;c1;c1;c1;c1;e111;e111;e111;e111;e111;e111");
        int length = x.count(3);
        for (int k = length; k < 100; k++) {
            due("feed", x.feed(';'), k + 1);
        }
        // Twelve clauses are there: the first byte behind them is the fault.
        due("read", x.read(), -10 - length);
        due("none is done", x.told(0), 0);
    }

    @Says(promise = 8, value = {"BAD", "FULL."})
    void badSignAheadOfFull() {
        EstateVessels x = new EstateVessels();
        for (int k = 1; k <= 100; k++) {
            x.feed('r');
        }
        due("feed(128)", x.feed(128), BAD);
        due("feed(-1)", x.feed(-1), BAD);
        due("feed(127)", x.feed(127), FULL);
    }

    // ---- read

    private void dueFault(String text, int fault) {
        EstateVessels x = new EstateVessels();
        due("read of '" + text + "'", Make.read(x, text), -10 - fault);
        due("claimants behind '" + text + "'", x.told(0), 0);
    }

    @Says(promise = 9, value = "THE TEXT, which is empty then (by a FAULT, too), is a set-up")
    void textIsEmptyThen() {
        EstateVessels x = new EstateVessels();
        due("read", Make.read(x, "c5;e3"), 2);
        due("count", x.count(3), 0);
        due("read of nothing", x.read(), -10);
        due("claimants", x.told(0), 1);
    }

    @Says(promise = 9, value = "THE TEXT, which is empty then (by a FAULT, too), is a set-up")
    void textIsEmptyBehindFault() {
        EstateVessels x = new EstateVessels();
        due("read", Make.read(x, "c5;x"), -13);
        due("count", x.count(3), 0);
        due("the first of the next", x.feed('c'), 1);
        due("the next", x.feed('7'), 2);
        due("read", x.read(), 1);
        due("claim", x.of(0), 7);
    }

    @Says(promise = 9, value = "how many CLAUSES were done; -10 less the FAULT.")
    void clausesDone() {
        EstateVessels x = new EstateVessels();
        due("six", Make.read(x, "c12;c5;n060;e20;r3;c1"), 6);
        due("claim 0", x.of(0), 60);
        due("claim 1", x.of(1), 5);
        due("claim 2", x.of(2), 1);
        due("estate", x.told(2), 20);
        due("rule", x.told(3), 3);
    }

    @Says(promise = 9, value = "how many CLAUSES were done; -10 less the FAULT.")
    void faultTold() {
        dueFault("", 0);
        dueFault("x", 0);
        dueFault("c5;e3;r2;n03;x", 13);
    }

    @Says(promise = 0, value = "CLAUSES, 1 to 12, with ; between")
    void noClause() {
        dueFault("", 0);
        dueFault(";", 0);
        dueFault("c5;", 3);
        dueFault(";c5", 0);
        dueFault("c5;;c5", 3);
    }

    @Says(promise = 0, value = "CLAUSES, 1 to 12, with ; between")
    void twelveClauses() {
        EstateVessels x = new EstateVessels();
        due("one", Make.read(x, "r4"), 1);
        due("twelve", Make.read(x, "c1;c2;c3;c4;c5;c6;e10;r1;n09;e11;e12;r2"), 12);
        due("the last", x.told(3), 2);
    }

    @Says(promise = 0, value = "CLAUSES, 1 to 12, with ; between")
    void thirteenClauses() {
        dueFault("c1;c2;c3;c4;c5;c6;e10;r1;n09;e11;e12;r2;r3", 39);
        dueFault("c1;c2;c3;c4;c5;c6;e10;r1;n09;e11;e12;r2;", 39);
        dueFault("c1;c2;c3;c4;c5;c6;e10;r1;n09;e11;e12;r2x", 39);
    }

    @Says(promise = 0, value = "c CLAIM (a CLAIMANT comes)")
    void clauseOfClaim() {
        EstateVessels x = new EstateVessels();
        due("c60;c1", Make.read(x, "c60;c1"), 2);
        due("first", x.of(0), 60);
        due("second", x.of(1), 1);
    }

    @Says(promise = 0, value = "n i CLAIM (it becomes that)")
    void clauseOfRenewal() {
        EstateVessels x = of(0, 1, 2, 3, 4, 5, 6);
        due("n060;n51;n109", Make.read(x, "n060;n51;n109"), 3);
        int[] claims = {60, 9, 3, 4, 5, 1};
        for (int i = 0; i < 6; i++) {
            due("of", x.of(i), claims[i]);
        }
    }

    @Says(promise = 0, value = "e ESTATE")
    void clauseOfEstate() {
        String[] texts = {"e0", "e360", "e00", "e000", "e007", "e07", "e7", "e99", "e100"};
        int[] estates = {0, 360, 0, 0, 7, 7, 7, 99, 100};
        for (int k = 0; k < texts.length; k++) {
            EstateVessels x = of(50, 1);
            due(texts[k], Make.read(x, texts[k]), 1);
            due("estate by " + texts[k], x.told(2), estates[k]);
        }
    }

    @Says(promise = 0, value = "r RULE (THE RULE, 0 at first, is that)")
    void clauseOfRule() {
        EstateVessels x = new EstateVessels();
        for (int rule = 5; rule >= 0; rule--) {
            due("r" + rule, Make.read(x, "r" + rule), 1);
            due("told", x.told(3), rule);
        }
    }

    @Says(promise = 0, value = "CLAIM: 1 or 2 digits")
    void digitsOfClaim() {
        dueFault("c", 1);
        dueFault("c;", 1);
        dueFault("cx", 1);
        dueFault("c5x", 2);
        dueFault("c55x", 3);
        dueFault("c055", 3);
        dueFault("n1", 2);
        dueFault("n1;", 2);
        dueFault("n15x", 3);
        dueFault("n155x", 4);
        dueFault("n1555", 4);
        EstateVessels x = new EstateVessels();
        due("c5;c05;c50", Make.read(x, "c5;c05;c50"), 3);
        due("c5", x.of(0), 5);
        due("c05", x.of(1), 5);
        due("c50", x.of(2), 50);
    }

    @Says(promise = 0, value = "ESTATE: 1 to 3")
    void digitsOfEstate() {
        dueFault("e", 1);
        dueFault("e;", 1);
        dueFault("e1x", 2);
        dueFault("e12x", 3);
        dueFault("e123x", 4);
        dueFault("e0001", 4);
    }

    @Says(promise = 0, value = "i, RULE: a digit.")
    void digitOfRule() {
        dueFault("r", 1);
        dueFault("r;", 1);
        dueFault("r5x", 2);
        dueFault("r05", 2);
        dueFault("n", 1);
        dueFault("nx", 1);
        dueFault("n;", 1);
    }

    @Says(promise = 0, value = "i, RULE: a digit.")
    void signsBesideDigits() {
        for (String start : new String[] {"c", "e", "r", "n", "n0"}) {
            dueFault(start + "/", start.length());
            dueFault(start + ":", start.length());
            dueFault(start + "-", start.length());
            dueFault(start + "+", start.length());
        }
        for (String start : new String[] {"c9", "e9", "e99", "n09"}) {
            dueFault(start + "/", start.length());
            dueFault(start + ":", start.length());
        }
    }

    @Says(promise = 0, value = "Nothing stands between (no blanks).")
    void noBlanks() {
        dueFault(" c5", 0);
        dueFault("c 5", 1);
        dueFault("c5 ", 2);
        dueFault("c5 ;c5", 2);
        dueFault("c5; c5", 3);
        dueFault("n 05", 1);
        dueFault("n0 5", 2);
        dueFault("c5\n", 2);
        dueFault("c5,c5", 2);
        dueFault("c5:c5", 2);
        dueFault("c5c5", 2);
        dueFault("r5r5", 2);
    }

    @Says(promise = 0, value = "The FAULT: the place of the first byte with which none begins so")
    void firstByteOfFault() {
        for (int sign = 0; sign < 128; sign++) {
            boolean begins = sign == 'c' || sign == 'n' || sign == 'e' || sign == 'r';
            dueFault("" + (char) sign, begins ? 1 : 0);
            dueFault("c1;" + (char) sign, begins ? 4 : 3);
            boolean isDigit = sign >= '0' && sign <= '9';
            dueFault("e" + (char) sign + "x", isDigit ? 2 : 1);
            dueFault("r1" + (char) sign + "x", sign == ';' ? 3 : 2);
        }
        dueFault("C5", 0);
        dueFault("x;y;z", 0);
    }

    @Says(promise = 0, value = "(the end of THE TEXT, if it ends too early)")
    void textEndsTooEarly() {
        dueFault("", 0);
        dueFault("c", 1);
        dueFault("n", 1);
        dueFault("n1", 2);
        dueFault("e", 1);
        dueFault("r", 1);
        dueFault("c5;", 3);
        dueFault("c5;e", 4);
        dueFault("c5;e10;n0", 9);
    }

    @Says(promise = 0, value = "Without FAULT they are done, one behind the other")
    void clausesOneBehindOther() {
        EstateVessels x = new EstateVessels();
        due("n05;c7;n06", Make.read(x, "n05;c7;n06"), 2);
        due("claim", x.of(0), 6);
        due("e1;e2;e3", Make.read(x, "e1;e2;e3"), 3);
        due("estate", x.told(2), 3);
        due("r1;r2;r9", Make.read(x, "r1;r2;r9"), 2);
        due("rule", x.told(3), 2);
    }

    @Says(promise = 0, value = "Without FAULT they are done, one behind the other")
    void byFaultNoneIsDone() {
        EstateVessels x = of(9, 10);
        x.rule(2);
        due("read", Make.read(x, "c5;n03;e20;r3;"), -24);
        due("claimants", x.told(0), 1);
        due("claim", x.of(0), 10);
        due("estate", x.told(2), 9);
        due("rule", x.told(3), 2);
    }

    @Says(promise = 0, value = "those that would be refused aren't.")
    void refusedClausesAreNot() {
        EstateVessels x = of(9, 10);
        x.rule(2);
        for (String text : new String[] {"c0", "c00", "c61", "c99", "n00", "n061", "n099", "n15", "n95",
            "e361", "e999", "r6", "r9"}) {
            due(text, Make.read(x, text), 0);
        }
        due("claimants", x.told(0), 1);
        due("claim", x.of(0), 10);
        due("estate", x.told(2), 9);
        due("rule", x.told(3), 2);
        due("c0;c60;e361;e360;r6;r5;n00;n01", Make.read(x, "c0;c60;e361;e360;r6;r5;n00;n01"), 4);
    }

    @Says(promise = 0, value = "those that would be refused aren't.")
    void seventhClaimantIsRefused() {
        EstateVessels x = new EstateVessels();
        due("read", Make.read(x, "c1;c2;c3;c4;c5;c6;c7;c8;e5;r1"), 8);
        due("claimants", x.told(0), 6);
        due("all", x.told(1), 21);
        due("estate", x.told(2), 5);
    }
}
