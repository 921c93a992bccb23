/** Each promise of the document by its number: ordinary inputs, the edges that it names, wrong inputs. */
public final class PromisesTest {
    private static final int NONE = -1, BAD = -2, STATE = -3, FULL = -4, NOT_THERE = -5;
    private static final int NOTHING = -11, CAST = -12, PLACE = -13, SIZE = -14;
    private static final long NO = Long.MIN_VALUE;
    private static final int LEAST = Integer.MIN_VALUE, MOST = Integer.MAX_VALUE;

    private static final Checks CHECKS = new Checks();

    private static void due(String call, long got, long want) {
        CHECKS.due(call, got, want);
    }

    private static EstateVessels of(int estate, int... claims) {
        return Make.of(estate, claims);
    }

    private static int read(EstateVessels x, String text) {
        return Make.read(x, text);
    }

    private static void dueAwards(String name, EstateVessels x, int rule, int... aboveBelow) {
        for (int i = 0; 2 * i < aboveBelow.length; i++) {
            due(name + " of " + i + " above", x.award(rule, i, 0), aboveBelow[2 * i]);
            due(name + " of " + i + " below", x.award(rule, i, 1), aboveBelow[2 * i + 1]);
        }
    }

    public static void main(String[] args) {
        promise1();
        promise2();
        promise3();
        promise4();
        promise5();
        promises6And7();
        promise8();
        promise9();
        promise9Faults();
        promise10();
        promise10Edges();
        promise11();
        promise12();
        promise13();
        promise14();
        promise15();
        promise16();
        promise17();
        promise18();
        promise19();
        promise20();
        promise21();
        promise22();
        promise23();
        promise24();
        promise25();
        promise26();
        promise27();
        promise28();
        promise29();
        promise30();
        promises31And32();
        promise33();
        promise34();
        promise35();
        promise36();
        promise37();
        CHECKS.finish("PromisesTest");
    }

    private static void promise1() {
        EstateVessels x = new EstateVessels();
        due("1 claimants", x.told(0), 0);
        due("1 estate", x.told(2), 0);
        due("1 rule", x.told(3), 0);
        due("1 ready", x.told(4), 0);
        for (int what = 0; what < 4; what++) {
            due("1 count", x.count(what), 0);
        }
        for (int tape = 0; tape < 6; tape++) {
            due("1 tape", x.item(tape, 0, 1), NOTHING);
        }
        due("1 undo", x.undo(), STATE);
        due("1 NO", EstateVessels.NO, NO);
        due("1 NONE", EstateVessels.NONE, -1);
        due("1 BAD", EstateVessels.BAD, -2);
        due("1 STATE", EstateVessels.STATE, -3);
        due("1 FULL", EstateVessels.FULL, -4);
    }

    private static void promise2() {
        EstateVessels x = new EstateVessels();
        due("2 claim(0)", x.claim(0), BAD);
        due("2 claim(61)", x.claim(61), BAD);
        due("2 claim(least)", x.claim(LEAST), BAD);
        due("2 claim(1)", x.claim(1), 0);
        due("2 claim(60)", x.claim(60), 1);
        for (int k = 2; k < 6; k++) {
            due("2 claim(7)", x.claim(7), k);
        }
        due("2 seventh", x.claim(7), FULL);
        due("2 seventh bad", x.claim(61), BAD);
        due("2 claimants", x.told(0), 6);
        due("2 all", x.told(1), 89);
    }

    private static void promise3() {
        EstateVessels x = of(0, 10, 20);
        due("3 renew", x.renew(1, 60), 20);
        due("3 renew", x.renew(1, 1), 60);
        due("3 of(0)", x.of(0), 10);
        due("3 of(1)", x.of(1), 1);
        due("3 none before bad", x.renew(2, 0), NONE);
        due("3 none", x.renew(-1, 5), NONE);
        due("3 bad", x.renew(0, 0), BAD);
        due("3 bad", x.renew(0, 61), BAD);
        due("3 as it was", x.of(0), 10);
    }

    private static void promise4() {
        EstateVessels x = new EstateVessels();
        due("4 estate(360)", x.estate(360), 0);
        due("4 estate(361)", x.estate(361), BAD);
        due("4 estate(-1)", x.estate(-1), BAD);
        due("4 estate(0)", x.estate(0), 360);
        due("4 estate(5)", x.estate(5), 0);
        due("4 told", x.told(2), 5);
    }

    private static void promise5() {
        EstateVessels x = new EstateVessels();
        due("5 rule(5)", x.rule(5), 0);
        due("5 rule(6)", x.rule(6), BAD);
        due("5 rule(-1)", x.rule(-1), BAD);
        due("5 rule(2)", x.rule(2), 5);
        due("5 told", x.told(3), 2);
    }

    private static void promises6And7() {
        EstateVessels x = of(31, 10, 20);
        due("6 of(0)", x.of(0), 10);
        due("6 of(1)", x.of(1), 20);
        due("6 of(2)", x.of(2), NONE);
        due("6 of(-1)", x.of(-1), NONE);
        due("6 of(most)", x.of(MOST), NONE);
        x.rule(4);
        due("7 claimants", x.told(0), 2);
        due("7 all", x.told(1), 30);
        due("7 estate", x.told(2), 31);
        due("7 rule", x.told(3), 4);
        due("7 not ready", x.told(4), 0);
        x.estate(30);
        due("7 ready", x.told(4), 1);
        due("7 none", x.told(5), NONE);
        due("7 none", x.told(-1), NONE);
    }

    private static void promise8() {
        EstateVessels x = new EstateVessels();
        due("8 below", x.feed(-1), BAD);
        due("8 above", x.feed(128), BAD);
        due("8 feed(0)", x.feed(0), 1);
        due("8 feed(127)", x.feed(127), 2);
        for (int k = 3; k <= 100; k++) {
            due("8 feed", x.feed('c'), k);
        }
        due("8 full", x.feed('c'), FULL);
        due("8 bad before full", x.feed(128), BAD);
        due("8 count", x.count(3), 100);
    }

    private static void promise9() {
        EstateVessels x = new EstateVessels();
        due("9 five clauses", read(x, "c12;c5;e20;r3;n060"), 5);
        due("9 claims", x.of(0) * 100 + x.of(1), 6005);
        due("9 estate", x.told(2), 20);
        due("9 rule", x.told(3), 3);
        due("9 empty then", x.count(3), 0);
        due("9 refused", read(x, "c0;c00;c61;n95;n20;e361;e999;r6;r9"), 0);
        due("9 some refused", read(x, "c07;c61;e007;r0"), 3);
        due("9 claim 07", x.of(2), 7);
        due("9 estate 007", x.told(2), 7);
        due("9 one behind the other", read(new EstateVessels(), "n05;c5;n06"), 2);
        EstateVessels full = new EstateVessels();
        due("9 twelve, six too many", read(full, "c1;c2;c3;c4;c5;c6;c7;c8;c9;c1;c2;c3"), 6);
        due("9 six", full.told(0), 6);
        due("9 a thirteenth", read(full, "r1;r2;r3;r4;r5;r1;r2;r3;r4;r5;r1;r2;r3"), -10 - 35);
        due("9 none is done", full.told(3), 0);
    }

    private static void promise9Faults() {
        String[] texts = {"", "x", "c", "n", "e", "r", "n1", "c5;", "c5;;", "c123", "e1234", "n1234", "r12",
            "c5,c5", "c 5", " c5", "C5", "ne", "n1e", "ee", "c5;x", "r5\0", "c/", "c:"};
        int[] faults = {0, 0, 1, 1, 1, 1, 2, 3, 3, 3, 4, 4, 2, 2, 1, 0, 0, 1, 2, 1, 3, 2, 1, 1};
        EstateVessels x = new EstateVessels();
        for (int k = 0; k < texts.length; k++) {
            due("9 fault of " + texts[k], read(x, texts[k]), -10 - faults[k]);
            due("9 empty then", x.count(3), 0);
        }
        due("9 none came", x.told(0), 0);
    }

    private static void promise10() {
        EstateVessels x = of(20, 10, 20, 30, 7);
        dueAwards("10 even", x, 0, 5, 1, 5, 1, 5, 1, 5, 1);
        dueAwards("10 loss", x, 1, 0, 1, 5, 1, 15, 1, 0, 1);
        dueAwards("10 share", x, 2, 200, 67, 400, 67, 600, 67, 140, 67);
        dueAwards("10 talmud", x, 3, 5, 1, 23, 4, 23, 4, 7, 2);
        dueAwards("10 turned", x, 4, 13, 8, 53, 8, 93, 8, 1, 8);
        dueAwards("10 arrival", x, 5, 10, 3, 43, 6, 43, 6, 7, 3);
        x.estate(50);
        dueAwards("10 even", x, 0, 10, 1, 33, 2, 33, 2, 7, 1);
        dueAwards("10 loss", x, 1, 23, 4, 63, 4, 103, 4, 11, 4);
        dueAwards("10 talmud", x, 3, 11, 2, 31, 2, 51, 2, 7, 2);
        dueAwards("10 turned", x, 4, 28, 3, 43, 3, 58, 3, 7, 1);
        dueAwards("10 arrival", x, 5, 20, 3, 43, 3, 73, 3, 14, 3);
    }

    private static void promise10Edges() {
        EstateVessels x = of(0, 10, 20);
        for (int rule = 0; rule < 6; rule++) {
            x.estate(0);
            dueAwards("10 of nothing", x, rule, 0, 1, 0, 1);
            x.estate(30);
            dueAwards("10 of all", x, rule, 10, 1, 20, 1);
        }
        x.estate(15);
        dueAwards("10 talmud by half", x, 3, 5, 1, 10, 1);
        dueAwards("10 turned by half", x, 4, 5, 1, 10, 1);
        dueAwards("10 arrival of six", of(100, 10, 20, 30, 40, 50, 60), 5, 29, 6, 19, 2, 29, 2, 115, 6, 71, 3, 85, 3);
        due("10 rule", x.award(6, 0, 0), NO);
        due("10 rule", x.award(-1, 0, 0), NO);
        due("10 claimant", x.award(0, 2, 0), NO);
        due("10 claimant", x.award(0, -1, 0), NO);
        due("10 part", x.award(0, 0, 2), NO);
        due("10 part", x.award(0, 0, -1), NO);
        x.estate(31);
        due("10 not ready", x.award(0, 0, 0), NO);
        due("10 no claimants", new EstateVessels().award(0, 0, 0), NO);
    }

    private static void promise11() {
        EstateVessels x = of(20, 10, 20, 30, 7);
        due("11 share 200/67", x.cut(2, 0), 2);
        due("11 share 600/67", x.cut(2, 2), 8);
        due("11 talmud 23/4", x.cut(3, 1), 5);
        due("11 even 5", x.cut(0, 3), 5);
        due("11 turned 1/8", x.cut(4, 3), 0);
        due("11 bad before none", x.cut(6, 9), BAD);
        due("11 none", x.cut(0, 4), NONE);
        due("11 none", x.cut(0, -1), NONE);
        x.estate(68);
        due("11 state", x.cut(0, 0), STATE);
        due("11 none before state", x.cut(0, 4), NONE);
    }

    private static void promise12() {
        EstateVessels x = of(20, 10, 20, 30, 7);
        int[] same = {1, 0, 2, 3, 4, 5};
        for (int rule = 0; rule < 6; rule++) {
            for (int i = 0; i < 4; i++) {
                for (int part = 0; part < 2; part++) {
                    due("12 dual of " + rule, x.dual(rule, i, part), x.award(same[rule], i, part));
                }
            }
        }
        due("12 rule", x.dual(6, 0, 0), NO);
        due("12 claimant", x.dual(0, 4, 0), NO);
        due("12 part", x.dual(0, 0, 2), NO);
        x.estate(68);
        due("12 not ready", x.dual(0, 0, 0), NO);
    }

    private static void promise13() {
        EstateVessels x = of(20, 10, 20, 30, 7);
        // Arrival gives 0 and 1 of four 10/3 and 43/6: 21/2 together, of which 0 gets 10 ahead of 1, 0 behind it.
        due("13 arrival of 0 with 1", x.alone(5, 0, 1, 0), 5);
        due("13 arrival of 0 with 1", x.alone(5, 0, 1, 1), 1);
        due("13 arrival of 1 with 0", x.alone(5, 1, 0, 0), 11);
        due("13 arrival of 1 with 0", x.alone(5, 1, 0, 1), 2);
        due("13 even", x.alone(0, 0, 3, 0), 5);
        due("13 loss", x.alone(1, 2, 1, 0), 15);
        due("13 talmud", x.alone(3, 3, 2, 0) * 10 + x.alone(3, 3, 2, 1), 72);
        due("13 share", x.alone(2, 3, 0, 0) * 100 + x.alone(2, 3, 0, 1), 14067);
        due("13 one twice", x.alone(0, 1, 1, 0), NO);
        due("13 rule", x.alone(6, 0, 1, 0), NO);
        due("13 i", x.alone(0, 4, 1, 0), NO);
        due("13 j", x.alone(0, 0, -1, 0), NO);
        due("13 part", x.alone(0, 0, 1, 2), NO);
        x.estate(68);
        due("13 not ready", x.alone(0, 0, 1, 0), NO);
    }

    private static void promise14() {
        EstateVessels x = of(20, 10, 20, 30, 7);
        for (int rule = 0; rule < 5; rule++) {
            due("14 consistent", x.consistent(rule), NOT_THERE);
        }
        due("14 arrival isn't", x.consistent(5), 1);
        due("14 the second of two likes", of(2, 2, 2, 1).consistent(5), 2);
        // 0 gets half of its claim, as it does with each alone.
        due("14 two behind the first", of(4, 1, 2, 3, 3).consistent(5), 12);
        due("14 bad", x.consistent(6), BAD);
        due("14 bad", x.consistent(-1), BAD);
        due("14 one alone", of(3, 9).consistent(5), NOT_THERE);
        due("14 two alone", of(3, 9, 2).consistent(5), NOT_THERE);
        due("14 as the reference", of(9, 2, 3, 4, 5).consistent(5), Make.reference(9, 2, 3, 4, 5).consistent(5));
        due("14 of three", of(10, 1, 1, 30).consistent(5), Make.reference(10, 1, 1, 30).consistent(5));
        x.estate(68);
        due("14 state", x.consistent(0), STATE);
        due("14 bad before state", x.consistent(6), BAD);
    }

    private static void promise15() {
        EstateVessels x = of(20, 10, 20, 30);
        // Even: 20/3 each; were claim 0 just 5, the others had 15/2.
        due("15 above", x.change(0, 0, 5, 1, 0), 5);
        due("15 below", x.change(0, 0, 5, 1, 1), 6);
        due("15 its own above", x.change(0, 0, 5, 0, 0), -5);
        due("15 its own below", x.change(0, 0, 5, 0, 1), 3);
        due("15 none above", x.change(0, 2, 60, 0, 0), 0);
        due("15 none below", x.change(0, 2, 60, 0, 1), 1);
        due("15 share above", x.change(2, 0, 30, 2, 0), -5);
        due("15 share below", x.change(2, 0, 30, 2, 1), 2);
        due("15 nothing changed", x.of(0), 10);
        due("15 rule", x.change(6, 0, 5, 0, 0), NO);
        due("15 i", x.change(0, 3, 5, 0, 0), NO);
        due("15 v", x.change(0, 0, 0, 0, 0), NO);
        due("15 v", x.change(0, 0, 61, 0, 0), NO);
        due("15 j", x.change(0, 0, 5, 3, 0), NO);
        due("15 part", x.change(0, 0, 5, 0, 2), NO);
        x.estate(55);
        due("15 ready then", x.change(0, 0, 5, 0, 1), 1);
        due("15 not ready then", x.change(0, 0, 4, 0, 0), NO);
        x.estate(61);
        due("15 not ready now", x.change(0, 0, 60, 0, 0), NO);
    }

    private static void promise16() {
        EstateVessels x = of(360, 10, 20, 30);
        due("16 nothing", x.inverse(0, 0, 0), 0);
        due("16 even 10", x.inverse(0, 0, 10), 30);
        due("16 even 1", x.inverse(0, 0, 1), 3);
        due("16 loss 1", x.inverse(1, 0, 1), 33);
        due("16 loss 1 of 2", x.inverse(1, 2, 1), 1);
        due("16 share 10", x.inverse(2, 0, 10), 60);
        due("16 none", x.inverse(0, 0, 11), NOT_THERE);
        due("16 none of 60", x.inverse(0, 2, 60), NOT_THERE);
        due("16 bad before none", x.inverse(6, 3, 61), BAD);
        due("16 none before bad", x.inverse(0, 3, 61), NONE);
        due("16 bad", x.inverse(0, 0, 61), BAD);
        due("16 bad", x.inverse(0, 0, -1), BAD);
    }

    private static void promise17() {
        EstateVessels x = of(360, 10, 20, 30);
        // Even of 1: E/3 to 30, (E - 10)/2 to 50, then 20.
        due("17 even 0", x.bends(0, 0), 1);
        due("17 even 1", x.bends(0, 1), 2);
        due("17 share", x.bends(2, 1), 0);
        due("17 loss 2", x.bends(1, 2), 2);
        due("17 one of one", of(0, 1).bends(0, 0), 0);
        due("17 two of ones", of(0, 1, 1).bends(5, 0), 0);
        due("17 bad before none", x.bends(6, 3), BAD);
        due("17 none", x.bends(0, 3), NONE);
        due("17 none", x.bends(5, -1), NONE);
    }

    private static void promise18() {
        EstateVessels x = of(15, 10, 20);
        due("18 by half", x.like(3), 4 + 8 + 16 + 32);
        due("18 by half", x.like(5), 4 + 8 + 16 + 32);
        due("18 even", x.like(0), 1);
        due("18 one", of(3, 9).like(2), 63);
        EstateVessels two = of(12, 10, 20);
        due("18 talmud and arrival of two", two.like(3), 8 + 32);
        due("18 bad", x.like(6), BAD);
        x.estate(31);
        due("18 state", x.like(0), STATE);
        due("18 bad before state", x.like(-1), BAD);
    }

    private static void promise19() {
        EstateVessels x = of(50, 10, 20, 30, 7);
        // Even gives 10, 33/2, 33/2, 7: 0, 7/2, 27/2, 0 are lost.
        int[] order = {2, 1, 0, 3};
        for (int k = 0; k < 4; k++) {
            due("19 even", x.sore(0, k), order[k]);
        }
        EstateVessels same = of(0, 5, 9, 5, 9);
        int[] byClaim = {1, 3, 0, 2};
        for (int k = 0; k < 4; k++) {
            due("19 likes", same.sore(4, k), byClaim[k]);
        }
        due("19 bad before none", x.sore(6, 4), BAD);
        due("19 none", x.sore(0, 4), NONE);
        due("19 none", x.sore(0, -1), NONE);
        x.estate(68);
        due("19 state", x.sore(0, 0), STATE);
        due("19 none before state", x.sore(0, 4), NONE);
    }

    private static void promise20() {
        EstateVessels x = of(10, 10, 20);
        due("20 even", x.poured(0, 4, 0), Float.floatToIntBits(5.0f));
        due("20 even", x.poured(0, 1, 0), Float.floatToIntBits(10.0f));
        due("20 even", x.poured(0, 1, 1), 0);
        due("20 loss", x.poured(1, 4, 1), Float.floatToIntBits(10.0f));
        due("20 share", x.poured(2, 1, 0), Float.floatToIntBits(10.0f));
        due("20 third", x.poured(0, 3, 1), Float.floatToIntBits(10.0f / 3.0f));
        due("20 talmud", x.poured(3, 10, 0), Float.floatToIntBits(5.0f));
        due("20 turned", x.poured(4, 10, 1), Float.floatToIntBits(7.0f));
        due("20 not spilled", x.poured(0, 4, -1), 0);
        due("20 spilled", of(20, 10, 20).poured(0, 1, -1), Float.floatToIntBits(10.0f));
        due("20 once full, by drops", of(2, 1, 1).poured(1, 60, -1), Make.reference(2, 1, 1).poured(1, 60, -1));
        x.renew(0, 1);
        due("20 spilled less", x.poured(0, 1, -1), Float.floatToIntBits(9.0f));
        due("20 full", x.poured(0, 1, 0), Float.floatToIntBits(1.0f));
        x.renew(0, 10);
        due("20 not spilled again", x.poured(0, 1, -1), 0);
        due("20 small spill", of(10, 10).poured(4, 7, -1), 897581056L);
        due("20 rule", x.poured(5, 4, 0), NO);
        due("20 rule", x.poured(-1, 4, 0), NO);
        due("20 n", x.poured(0, 0, 0), NO);
        due("20 n", x.poured(0, 61, 0), NO);
        due("20 claimant", x.poured(0, 4, 2), NO);
        due("20 claimant", x.poured(0, 4, -2), NO);
        x.estate(31);
        due("20 not ready", x.poured(0, 4, -1), NO);
    }

    private static void promise21() {
        EstateVessels x = of(10, 10, 20);
        long bits = Double.doubleToLongBits(5.0);
        due("21 higher", x.gap(0, 1, 0), bits >>> 32);
        due("21 lower", x.gap(0, 1, 1), bits & 0xFFFFFFFFL);
        due("21 none", x.gap(0, 4, 0), 0);
        due("21 none", x.gap(0, 4, 1), 0);
        // 10 less 10/3 is, as doubles, a bit less than 20/3 less 0.
        long thirds = Double.doubleToLongBits(20.0 / 3.0);
        due("21 share higher", x.gap(2, 1, 0), thirds >>> 32);
        due("21 share lower", x.gap(2, 1, 1), thirds & 0xFFFFFFFFL);
        due("21 rule", x.gap(5, 1, 0), NO);
        due("21 n", x.gap(0, 0, 0), NO);
        due("21 n", x.gap(0, 61, 0), NO);
        due("21 part", x.gap(0, 1, 2), NO);
        x.estate(31);
        due("21 not ready", x.gap(0, 1, 0), NO);
    }

    private static void promise22() {
        EstateVessels x = of(0, 10);
        due("22 none before bad", x.see(1, 61), NONE);
        due("22 none", x.see(-2, 0), NONE);
        due("22 bad", x.see(0, 61), BAD);
        due("22 bad", x.see(0, -1), BAD);
        for (int k = 1; k <= 5; k++) {
            due("22 see", x.see(0, 12 * k), k);
        }
        due("22 full", x.see(0, 0), FULL);
        due("22 bad before full", x.see(0, 61), BAD);
        due("22 none then", x.see(-1, 99), 0);
        due("22 count", x.count(0), 0);
        due("22 again", x.see(0, 0), 1);
    }

    private static void promise23() {
        EstateVessels x = of(10, 10, 20);
        due("23 nothing seen", x.fits(0, 0), 30);
        due("23 the least", x.fits(0, 1), 1);
        x.see(0, 4);
        // Even: 0 gets 4 by a claim of 4 alone.
        due("23 how many", x.fits(0, 0), 1);
        due("23 the least", x.fits(0, 1), 4);
        x.see(1, 6);
        due("23 two rows", x.fits(0, 1), 4);
        x.see(1, 7);
        due("23 none", x.fits(0, 0), 0);
        due("23 no least", x.fits(0, 1), NOT_THERE);
        due("23 claimant", x.fits(2, 0), NONE);
        due("23 what", x.fits(0, 2), NONE);
        due("23 what", x.fits(0, -1), NONE);
        EstateVessels y = of(40, 10, 20);
        due("23 ready by 20 .. 30", y.fits(0, 0), 11);
        due("23 ready by 20", y.fits(0, 1), 20);
        y.rule(2);
        y.see(0, 20);
        // 40 v / (v + 20) is 20 and less than 21 by 20, 21, 22.
        due("23 by the rule", y.fits(0, 0), 3);
        due("23 nothing changed", y.of(0), 10);
    }

    private static void promise24() {
        EstateVessels x = of(360, 10);
        due("24 above", x.odds(0, 0, 0), 6);
        due("24 below", x.odds(0, 0, 1), 11);
        EstateVessels y = of(360, 10, 20);
        // Share: 5 of 10 by 15 .. 30: 16 of 31. Even: 5 by 10 .. 30: 21 of 31.
        due("24 share", y.odds(2, 0, 0) * 100 + y.odds(2, 0, 1), 1631);
        due("24 even", y.odds(0, 0, 0) * 100 + y.odds(0, 0, 1), 2131);
        due("24 odd claims", of(0, 1, 1).odds(0, 0, 0), 2);
        due("24 odd claims", of(0, 1, 1).odds(0, 0, 1), 3);
        due("24 rule", x.odds(6, 0, 0), NO);
        due("24 claimant", x.odds(0, 1, 0), NO);
        due("24 part", x.odds(0, 0, 2), NO);
    }

    private static void promise25() {
        EstateVessels x = of(360, 10, 20, 1, 1);
        due("25 above", x.mean(0), 90);
        due("25 below", x.mean(1), 1);
        x.estate(10);
        due("25 above", x.mean(0), 5);
        due("25 below", x.mean(1), 2);
        x.estate(0);
        due("25 nothing above", x.mean(0), 0);
        due("25 nothing below", x.mean(1), 1);
        due("25 one claimant", of(7, 1).mean(0), 7);
        due("25 part", x.mean(2), NO);
        due("25 part", x.mean(-1), NO);
        due("25 no claimants", new EstateVessels().mean(0), NO);
    }

    private static void promise26() {
        EstateVessels x = of(0, 10);
        due("26 what", x.event(4, 0), NONE);
        due("26 what", x.event(-2, 0), NONE);
        due("26 claimant", x.event(0, 1), NONE);
        due("26 claimant", x.event(1, -1), NONE);
        due("26 rule", x.event(2, 6), BAD);
        due("26 n", x.event(3, 361), BAD);
        due("26 n", x.event(3, -1), BAD);
        due("26 rows", x.event(0, 0), 1);
        due("26 rows", x.event(1, 0), 2);
        due("26 rows", x.event(2, 5), 3);
        for (int k = 4; k <= 8; k++) {
            due("26 rows", x.event(3, 360), k);
        }
        due("26 full", x.event(0, 0), FULL);
        due("26 bad before full", x.event(2, 6), BAD);
        due("26 none then", x.event(-1, 99), 0);
        due("26 again", x.event(0, 0), 1);
    }

    private static void promise27() {
        EstateVessels x = of(10, 10, 20);
        due("27 no events", x.after(0), 5);
        x.event(3, 11);
        due("27 more estate", x.after(0) * 10 + x.after(1), 101);
        x.event(0, 0);
        due("27 more claim above", x.after(0), 21);
        due("27 more claim below", x.after(1), 2);
        x.event(2, 2);
        due("27 a rule above", x.after(0), 9);
        due("27 a rule below", x.after(1), 1);
        due("27 bits", x.after(2), 4);
        x.event(1, 0);
        due("27 claim 1", x.after(0) * 10 + x.after(1), 11);
        due("27 what", x.after(3), NO);
        due("27 what", x.after(-1), NO);
        x.event(3, 1);
        due("27 not ready then", x.after(2), NO);
        due("27 nothing changed", x.told(2) * 100 + x.of(0), 1010);
        due("27 no claimants", new EstateVessels().after(2), NO);
        EstateVessels y = of(360, 58, 60, 60, 60, 60, 60);
        y.event(3, 360);
        due("27 not ready", y.after(0), NO);
        y.event(0, 0);
        due("27 60 and 360 at most", y.after(0), 60);
    }

    private static void promise28() {
        EstateVessels x = of(0, 10);
        due("28 none before bad", x.book(1, 61), NONE);
        due("28 none", x.book(-2, 0), NONE);
        due("28 bad", x.book(0, 61), BAD);
        due("28 bad", x.book(0, -1), BAD);
        for (int k = 1; k <= 8; k++) {
            due("28 book", x.book(0, 7 * k), k);
        }
        due("28 full", x.book(0, 0), FULL);
        due("28 empty then", x.book(-1, 99), 0);
        due("28 again", x.book(0, 60), 1);
    }

    private static void promise29() {
        EstateVessels x = of(15, 10, 20);
        due("29 empty", x.looked(), NOT_THERE);
        x.book(0, 7);
        x.book(1, 7);
        due("29 all cut so", x.looked(), NOT_THERE);
        x.book(1, 8);
        due("29 the third", x.looked(), 2);
        x.rule(3);
        due("29 by the rule", x.looked(), 0);
        x.estate(31);
        due("29 state", x.looked(), STATE);
        due("29 no claimants", new EstateVessels().looked(), STATE);
    }

    private static void promise30() {
        EstateVessels x = of(15, 10, 20);
        x.rule(3);
        due("30 holds nothing", x.judge(0, 0), 100);
        x.tape(0, 3, 4);
        x.item(0, 1, 5);
        x.item(0, 2, 10);
        x.item(0, 3, 5);
        due("30 first otherwise", x.judge(0, 0), 0);
        due("30 none otherwise", x.judge(0, 1), NOT_THERE);
        due("30 ended behind one", x.judge(0, 3), 101);
        due("30 ended", x.judge(0, 4), 100);
        due("30 ended", x.judge(0, MOST), 100);
        due("30 below 0", x.judge(0, -1), 100);
        due("30 below 0", x.judge(0, LEAST), 100);
        x.item(0, 2, 11);
        due("30 second otherwise", x.judge(0, 1), 1);
        x.tape(1, 2, 4);
        due("30 cast", x.judge(1, 0), CAST);
        due("30 cast before place", x.judge(1, -1), CAST);
        due("30 none", x.judge(6, 0), NONE);
        due("30 none", x.judge(-1, 0), NONE);
        x.estate(31);
        due("30 state before cast", x.judge(1, 0), STATE);
        due("30 none before state", x.judge(6, 0), NONE);
    }

    private static void promises31And32() {
        EstateVessels x = of(15, 10, 20);
        due("32 state", x.undo(), STATE);
        x.rule(3);
        x.see(0, 5);
        x.event(3, 5);
        x.book(1, 10);
        due("31 image", x.image(), 2);
        x.claim(30);
        x.renew(0, 1);
        x.estate(2);
        x.rule(1);
        x.see(-1, 0);
        x.event(-1, 0);
        x.book(2, 3);
        x.feed('c');
        x.tape(0, 3, 1);
        due("32 undo", x.undo(), 2);
        due("32 claims", x.of(0) * 100 + x.of(1), 1020);
        due("32 estate", x.told(2), 15);
        due("32 rule", x.told(3), 3);
        due("32 all", x.told(1), 30);
        due("32 seen", x.count(0), 1);
        due("32 events", x.count(1), 1);
        due("32 book", x.count(2), 1);
        due("32 the text stays", x.count(3), 1);
        due("32 the tape stays", x.peek(0, 0), 0);
        due("32 award", x.award(3, 0, 0), 5);
        due("32 looked", x.looked(), NOT_THERE);
        due("32 after", x.after(0), 5);
        // 5 and a half to the first by 14, 5 by 15 .. 30.
        due("32 fits", x.fits(1, 0), 17);
        x.claim(9);
        due("32 once more", x.undo(), 2);
        x.claim(9);
        due("31 anew", x.image(), 3);
        x.renew(2, 1);
        due("32 of the new one", x.undo(), 3);
        due("32 claim", x.of(2), 9);
        EstateVessels none = new EstateVessels();
        due("31 of nothing", none.image(), 0);
        none.claim(4);
        due("32 to nothing", none.undo(), 0);
        due("32 to nothing", none.told(1), 0);
    }

    private static void promise33() {
        EstateVessels x = of(0, 10);
        x.see(0, 1);
        x.event(0, 0);
        x.event(0, 0);
        x.book(0, 0);
        x.book(0, 0);
        x.book(0, 0);
        for (int k = 0; k < 4; k++) {
            x.feed('e');
        }
        for (int what = 0; what < 4; what++) {
            due("33 count", x.count(what), what + 1);
        }
        due("33 bad", x.count(4), BAD);
        due("33 bad", x.count(-1), BAD);
    }

    private static void promise34() {
        EstateVessels x = new EstateVessels();
        due("34 none", x.tape(6, 9, 99), NONE);
        due("34 none", x.tape(-1, 3, 1), NONE);
        due("34 sort", x.tape(0, 5, -1), BAD);
        due("34 sort", x.tape(0, -2, 1), BAD);
        due("34 n", x.tape(0, 3, 61), BAD);
        due("34 size", x.tape(0, 3, -1), SIZE);
        due("34 size", x.tape(0, 3, LEAST), SIZE);
        due("34 as it was", x.item(0, 0, 1), NOTHING);
        due("34 60", x.tape(0, 3, 60), 1);
        x.item(0, 59, 7);
        due("34 as it was", x.tape(0, 3, 61), BAD);
        due("34 as it was", x.peek(0, 59), 7);
        due("34 all 0", x.tape(0, 3, 60), 1);
        due("34 all 0", x.peek(0, 59), 0);
        due("34 empty", x.tape(5, 4, 0), 1);
        due("34 empty", x.item(5, 0, 1), PLACE);
        due("34 nothing", x.tape(5, -1, 99), 1);
        due("34 nothing", x.item(5, 0, 1), NOTHING);
        due("34 nothing", x.tape(5, -1, -99), 1);
    }

    private static void promise35() {
        EstateVessels x = new EstateVessels();
        long v = 0x123456789ABCDEF0L;
        long[] due = {(byte) v, (short) v, (int) v, v, 1};
        for (int sort = 0; sort < 5; sort++) {
            x.tape(sort, sort, 2);
            due("35 item", x.item(sort, 1, v), 1);
            due("35 lowest bits of " + sort, x.peek(sort, 1), due[sort]);
            due("35 the other", x.peek(sort, 0), 0);
            x.item(sort, 1, 0);
            due("35 zero", x.peek(sort, 1), 0);
        }
        x.item(4, 0, 256);
        due("35 true", x.peek(4, 0), 1);
        x.item(0, 0, 255);
        due("35 byte", x.peek(0, 0), -1);
        due("35 none", x.item(6, 0, 1), NONE);
        due("35 none", x.item(-1, 0, 1), NONE);
        due("35 nothing before place", x.item(5, -1, 1), NOTHING);
        due("35 place", x.item(0, 2, 1), PLACE);
        due("35 place", x.item(0, -1, 1), PLACE);
    }

    private static void promise36() {
        EstateVessels x = new EstateVessels();
        x.tape(0, 3, 2);
        x.item(0, 0, -7);
        due("36 peek", x.peek(0, 0), -7);
        due("36 peek", x.peek(0, 1), 0);
        due("36 place", x.peek(0, 2), NO);
        due("36 place", x.peek(0, -1), NO);
        due("36 nothing", x.peek(1, 0), NO);
        due("36 tape", x.peek(6, 0), NO);
        due("36 tape", x.peek(-1, 0), NO);
        x.tape(0, -1, 0);
        due("36 nothing any more", x.peek(0, 0), NO);
    }

    private static void promise37() {
        EstateVessels x = new EstateVessels();
        x.tape(0, 0, 6);
        for (int k = 0; k < 6; k++) {
            x.item(0, k, k + 1);
        }
        due("37 the same one, up", x.shift(0, 0, 0, 1, 5), 5);
        int[] up = {1, 1, 2, 3, 4, 5};
        for (int k = 0; k < 6; k++) {
            due("37 up", x.peek(0, k), up[k]);
        }
        due("37 the same one, down", x.shift(0, 2, 0, 0, 4), 4);
        due("37 down", x.peek(0, 0) * 10 + x.peek(0, 3), 25);
        x.tape(1, 0, 3);
        due("37 another", x.shift(0, 1, 1, 0, 3), 3);
        due("37 another", x.peek(1, 0) * 100 + x.peek(1, 1) * 10 + x.peek(1, 2), 345);
        due("37 none at the ends", x.shift(0, 6, 1, 3, 0), 0);
        due("37 beyond", x.shift(0, 7, 1, 3, 0), PLACE);
        due("37 beyond", x.shift(0, 6, 1, 4, 0), PLACE);
        due("37 n beyond i's", x.shift(1, 1, 0, 0, 3), PLACE);
        due("37 n beyond j's", x.shift(0, 0, 1, 1, 3), PLACE);
        due("37 n below 0", x.shift(0, 0, 1, 0, -1), PLACE);
        due("37 i below 0", x.shift(0, -1, 1, 0, 1), PLACE);
        due("37 j below 0", x.shift(0, 0, 1, -1, 1), PLACE);
        due("37 most", x.shift(0, MOST, 1, MOST, MOST), PLACE);
        due("37 most n", x.shift(0, 1, 1, 1, MOST), PLACE);
        x.tape(2, 1, 3);
        due("37 cast before place", x.shift(0, -1, 2, 0, 1), CAST);
        due("37 nothing", x.shift(0, 0, 3, 0, 1), NOTHING);
        due("37 nothing", x.shift(3, 0, 0, 0, 1), NOTHING);
        due("37 none before nothing", x.shift(3, 0, 6, 0, 1), NONE);
        due("37 none", x.shift(-1, 0, 0, 0, 1), NONE);
    }
}
