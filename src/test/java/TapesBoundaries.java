/** Judging, the image, tapes: promises 30 to 37. */
final class TapesBoundaries extends Boundaries {
    private static final int[] NO_PLACE_OF_THREE = {-1, -2, 3, 4, 60, LEAST, MOST};
    private static final int SORTS = 5;

    /** 5, 10 and 15 by TALMUD. */
    private static EstateVessels judged(long... items) {
        EstateVessels x = of(30, 10, 20, 30);
        x.rule(TALMUD);
        Make.longs(x, 0, items);
        return x;
    }

    // ---- judge

    @Says(promise = 0, value = "CUTS by THE RULE told by a row of longs, from a place on, CLAIMANT by CLAIMANT, are JUDGED:"
            + " the first CLAIMANT whose is otherwise")
    void firstClaimantOtherwise() {
        due("0", judged(6, 10, 15).judge(0, 0), 0);
        due("0, and more", judged(6, 11, 16).judge(0, 0), 0);
        due("1", judged(5, 9, 15).judge(0, 0), 1);
        due("1, and more", judged(5, 9, 14).judge(0, 0), 1);
        due("2", judged(5, 10, 14).judge(0, 0), 2);
        due("2 by all 64 bits", judged(5, 10, 15 + (1L << 32)).judge(0, 0), 2);
        due("0 by all 64 bits", judged(5 + (1L << 63), 10, 15).judge(0, 0), 0);
        due("0, by THE RULE", of(30, 10, 20, 30).judge(0, 0), 100);
        EstateVessels x = judged(5, 10, 15);
        x.rule(EVEN);
        due("0 by EVEN", x.judge(0, 0), 0);
    }

    @Says(promise = 0, value = "-5: none")
    void noneOtherwise() {
        due("all", judged(5, 10, 15).judge(0, 0), NOT_THERE);
        due("all, and what is behind", judged(5, 10, 15, 99).judge(0, 0), NOT_THERE);
        due("from 2 on", judged(1, 2, 5, 10, 15).judge(0, 2), NOT_THERE);
        EstateVessels x = of(29, 10, 20, 30);
        Make.longs(x, 5, 9, 9, 9);
        due("29/3 each, cut", x.judge(5, 0), NOT_THERE);
        EstateVessels y = of(100, 10, 20, 30, 40, 50, 60);
        y.tape(2, 3, 60);
        for (int k = 0; k < 6; k++) {
            y.item(2, 54 + k, y.cut(EVEN, k));
        }
        due("the last six of 60", y.judge(2, 54), NOT_THERE);
        due("five of 60", y.judge(2, 55), 0);
    }

    @Says(promise = 0, value = "100 and how many were looked at, if the row ends ahead of that")
    void rowEndsAhead() {
        due("ahead of the first", judged().judge(0, 0), 100);
        due("behind one", judged(5).judge(0, 0), 101);
        due("behind two", judged(5, 10).judge(0, 0), 102);
        due("at its end", judged(5, 10, 15).judge(0, 3), 100);
        due("the last item", judged(5, 10, 5).judge(0, 2), 101);
        due("otherwise ahead of the end", judged(5, 11).judge(0, 0), 1);
        due("beyond its end", judged(5, 10, 15).judge(0, 4), 100);
        due("far beyond it", judged(5, 10, 15).judge(0, MOST), 100);
        due("near the greatest number", judged(5, 10, 15).judge(0, MOST - 1), 100);
    }

    @Says(promise = 0, value = "(or the place is below 0, or the TAPE holds nothing)")
    void placeBelowNone() {
        for (int place : new int[] {-1, -2, -3, LEAST}) {
            due("place " + place, judged(5, 10, 15).judge(0, place), 100);
            due("nothing, place " + place, judged(5, 10, 15).judge(1, place), 100);
        }
    }

    @Says(promise = 0, value = "(or the place is below 0, or the TAPE holds nothing)")
    void tapeHoldsNothing() {
        for (int tape = 1; tape < 6; tape++) {
            due("tape " + tape, judged(5, 10, 15).judge(tape, 0), 100);
        }
        EstateVessels x = judged(5, 10, 15);
        x.tape(0, -1, 3);
        due("nothing any more", x.judge(0, 0), 100);
    }

    @Says(promise = 30, value = "JUDGED from place i of a TAPE on. NONE: tape")
    void judgedByNoTape() {
        for (int tape : NO_TAPE) {
            due("tape " + tape, judged(5, 10, 15).judge(tape, 0), NONE);
        }
    }

    @Says(promise = 30, value = "STATE: not READY")
    void judgedWhenNotReady() {
        EstateVessels x = judged(5, 10, 15);
        x.estate(61);
        due("61 of 60", x.judge(0, 0), STATE);
        due("nothing", x.judge(1, 0), STATE);
        due("none at all", new EstateVessels().judge(0, 0), STATE);
        x.estate(60);
        due("60 of 60", x.judge(0, 0), 0);
    }

    @Says(promise = 30, value = "CAST: it is no row of longs.")
    void judgedByOtherRow() {
        for (int sort : new int[] {0, 1, 2, 4}) {
            for (int length : new int[] {0, 3, 60}) {
                EstateVessels x = judged();
                x.tape(3, sort, length);
                due("sort " + sort, x.judge(3, 0), CAST);
            }
        }
    }

    @Says(promise = 30, value = {"JUDGED from place i of a TAPE on. NONE: tape", "STATE: not READY",
        "CAST: it is no row of longs."})
    void judgedInOrder() {
        EstateVessels x = judged(5, 10, 15);
        x.tape(1, 2, 3);
        due("cast, place", x.judge(1, -1), CAST);
        x.estate(61);
        due("tape, not ready", x.judge(6, 0), NONE);
        due("not ready, cast", x.judge(1, 0), STATE);
        due("not ready, place", x.judge(0, -1), STATE);
    }

    // ---- image, undo

    @Says(promise = 31, value = "THE IMAGE is taken: how many CLAIMANTS there are.")
    void imageTaken() {
        EstateVessels x = new EstateVessels();
        due("of none", x.image(), 0);
        for (int k = 1; k <= 6; k++) {
            x.claim(k);
            due("of " + k, x.image(), k);
        }
        due("the last one counts", x.undo(), 6);
    }

    @Says(promise = 31, value = "THE IMAGE is taken: how many CLAIMANTS there are.")
    void imageStaysAsTaken() {
        EstateVessels x = of(9, 10, 20);
        x.image();
        x.renew(0, 1);
        x.claim(5);
        x.estate(2);
        x.rule(SHARE);
        due("undo", x.undo(), 2);
        due("claim", x.of(0), 10);
        x.renew(0, 2);
        x.estate(3);
        due("once more", x.undo(), 2);
        due("claim", x.of(0), 10);
        due("estate", x.told(2), 9);
        due("rule", x.told(3), 0);
    }

    @Says(promise = 32, value = "STATE: there is none.")
    void noImage() {
        due("new", new EstateVessels().undo(), STATE);
        EstateVessels x = of(9, 10);
        due("none", x.undo(), STATE);
        due("claim stays", x.of(0), 10);
        due("estate stays", x.told(2), 9);
        x.image();
        due("one", x.undo(), 1);
        due("still one", x.undo(), 1);
    }

    @Says(promise = 32, value = "All is as THE IMAGE")
    void undoneToNothing() {
        EstateVessels x = new EstateVessels();
        x.image();
        x.claim(10);
        x.estate(5);
        x.rule(ARRIVAL);
        x.see(0, 1);
        x.event(0, 0);
        x.book(0, 1);
        due("undo", x.undo(), 0);
        for (int what = 0; what < 5; what++) {
            due("told", x.told(what), 0);
        }
        for (int what = 0; what < 4; what++) {
            due("count", x.count(what), 0);
        }
        due("of", x.of(0), NONE);
        due("claim", x.claim(7), 0);
        due("of", x.of(0), 7);
    }

    @Says(promise = 0, value = "THE IMAGE: CLAIMANTS, THE ESTATE, THE RULE, SEEN, EVENTS, the BOOK.")
    void claimantsOfImage() {
        EstateVessels x = of(30, 10, 20, 30);
        x.image();
        x.renew(0, 60);
        x.renew(2, 1);
        for (int k = 0; k < 3; k++) {
            x.claim(9);
        }
        due("undo", x.undo(), 3);
        due("all", x.told(1), 60);
        for (int i = 0; i < 3; i++) {
            due("of", x.of(i), 10 * i + 10);
        }
        due("of", x.of(3), NONE);
        for (int rule = 2; rule < RULES; rule++) {
            dueWhole(x, rule, 5, 10, 15);
        }
        due("the next one", x.claim(4), 3);
    }

    @Says(promise = 0, value = "THE IMAGE: CLAIMANTS, THE ESTATE, THE RULE, SEEN, EVENTS, the BOOK.")
    void estateAndRuleOfImage() {
        EstateVessels x = of(360, 10);
        x.rule(ARRIVAL);
        x.image();
        x.estate(0);
        x.rule(EVEN);
        x.undo();
        due("estate", x.told(2), 360);
        due("rule", x.told(3), ARRIVAL);
        x.estate(10);
        x.image();
        x.estate(11);
        x.undo();
        due("of the last one", x.told(2), 10);
    }

    @Says(promise = 0, value = "THE IMAGE: CLAIMANTS, THE ESTATE, THE RULE, SEEN, EVENTS, the BOOK.")
    void rowsOfImage() {
        EstateVessels x = of(15, 10, 20);
        x.see(0, 7);
        x.event(3, 1);
        x.event(0, 0);
        x.book(0, 7);
        x.book(1, 7);
        x.book(1, 6);
        x.image();
        due("looked", x.looked(), 2);
        due("fits", x.fits(0, 0), 24);
        due("after", x.after(0), 8);
        x.see(-1, 0);
        x.see(1, 59);
        x.see(1, 58);
        x.event(-1, 0);
        x.event(1, 1);
        x.book(-1, 0);
        x.book(0, 1);
        due("undo", x.undo(), 2);
        due("seen", x.count(0), 1);
        due("events", x.count(1), 2);
        due("book", x.count(2), 3);
        due("looked", x.looked(), 2);
        due("fits", x.fits(0, 0), 24);
        due("after", x.after(0), 8);
    }

    @Says(promise = 0, value = "THE IMAGE: CLAIMANTS, THE ESTATE, THE RULE, SEEN, EVENTS, the BOOK.")
    void fullImage() {
        EstateVessels x = of(21, 1, 2, 3, 4, 5, 6);
        for (int k = 0; k < 5; k++) {
            x.see(k + 1, k + 2);
        }
        for (int k = 0; k < 8; k++) {
            x.event(3, 0);
            x.book(5, k < 7 ? 6 : 5);
        }
        due("image", x.image(), 6);
        x.see(-1, 0);
        x.event(-1, 0);
        x.book(-1, 0);
        due("undo", x.undo(), 6);
        due("see", x.see(0, 0), FULL);
        due("event", x.event(0, 0), FULL);
        due("book", x.book(0, 0), FULL);
        due("claim", x.claim(1), FULL);
        due("looked", x.looked(), 7);
        due("fits", x.fits(0, 0), 1);
        due("after", x.after(0), 1);
    }

    @Says(promise = 32, value = "(THE TEXT and the TAPES stay as they are): how many CLAIMANTS.")
    void textAndTapesStay() {
        EstateVessels x = of(5, 10);
        Make.feed(x, "r1");
        Make.longs(x, 0, 1, 2);
        x.image();
        Make.feed(x, ";r2");
        Make.longs(x, 0, 3, 4, 5);
        x.tape(5, 4, 1);
        x.item(5, 0, 7);
        due("undo", x.undo(), 1);
        due("text", x.count(3), 5);
        due("tape 0", x.peek(0, 2), 5);
        due("tape 0", x.peek(0, 0), 3);
        due("tape 5", x.peek(5, 0), 1);
        due("read", x.read(), 2);
        due("rule", x.told(3), 2);
        due("undo", x.undo(), 1);
        due("the text is empty still", x.count(3), 0);
        due("rule", x.told(3), 0);
    }

    // ---- count

    @Says(promise = 33, value = "How many: 0 SEEN, 1 EVENTS, 2 of the BOOK, 3 bytes of THE TEXT.")
    void eachCounted() {
        EstateVessels x = of(0, 10);
        for (int k = 0; k < 100; k++) {
            if (k < 5) {
                x.see(0, 1);
            }
            if (k < 8) {
                x.event(0, 0);
            }
            if (k < 7) {
                x.book(0, 1);
            }
            x.feed('c');
            due("seen", x.count(0), Math.min(5, k + 1));
            due("events", x.count(1), Math.min(8, k + 1));
            due("book", x.count(2), Math.min(7, k + 1));
            if (k > 97) {
                due("text", x.count(3), k + 1);
            }
        }
    }

    @Says(promise = 33, value = "BAD.")
    void nothingSuchCounted() {
        for (int what : new int[] {-1, -2, 4, 5, LEAST, MOST}) {
            due("what " + what, new EstateVessels().count(what), BAD);
        }
    }

    // ---- tape

    @Says(promise = 0, value = "TAPES 0 .. 5 hold nothing (at first)")
    void tapesHoldNothingAtFirst() {
        EstateVessels x = new EstateVessels();
        for (int tape = 0; tape < 6; tape++) {
            due("item", x.item(tape, 0, 1), NOTHING);
            due("peek", x.peek(tape, 0), NO);
            due("shift", x.shift(tape, 0, tape, 0, 0), NOTHING);
        }
    }

    @Says(promise = 34, value = "A TAPE becomes a row of n (0 .. 60) of a sort, all 0")
    void rowsFromNoneToSixty() {
        for (int sort = 0; sort < SORTS; sort++) {
            for (int n : new int[] {0, 1, 2, 59, 60}) {
                EstateVessels x = new EstateVessels();
                due("tape", x.tape(5, sort, n), 1);
                for (int k = 0; k < n; k++) {
                    due("item " + k + " of " + n, x.peek(5, k), 0);
                }
                due("its end", x.peek(5, n), NO);
                due("its end", x.item(5, n, 1), PLACE);
                due("the others", x.item(4, 0, 1), NOTHING);
            }
        }
    }

    @Says(promise = 34, value = "A TAPE becomes a row of n (0 .. 60) of a sort, all 0")
    void anewAllAreNothing() {
        EstateVessels x = new EstateVessels();
        Make.longs(x, 0, 7, 8, 9);
        due("as long", x.tape(0, 3, 3), 1);
        for (int k = 0; k < 3; k++) {
            due("item", x.peek(0, k), 0);
            x.item(0, k, 5);
        }
        due("shorter", x.tape(0, 3, 1), 1);
        due("item", x.peek(0, 0), 0);
        due("no other", x.peek(0, 1), NO);
        due("longer, of another sort", x.tape(0, 1, 60), 1);
        for (int k = 0; k < 60; k++) {
            due("item", x.peek(0, k), 0);
        }
        x.item(0, 59, 3);
        x.tape(0, -1, 0);
        x.tape(0, 1, 60);
        due("by nothing between", x.peek(0, 59), 0);
    }

    @Says(promise = 34, value = "or holds nothing (sort -1: n does not matter): 1.")
    void holdsNothingThen() {
        for (int n : new int[] {0, 3, 60, 61, -1, LEAST, MOST}) {
            EstateVessels x = new EstateVessels();
            due("of nothing", x.tape(0, -1, n), 1);
            Make.longs(x, 0, 7, 8, 9);
            due("n " + n, x.tape(0, -1, n), 1);
            due("item", x.item(0, 0, 1), NOTHING);
            due("peek", x.peek(0, 0), NO);
            Make.longs(x, 1, 7);
            due("shift", x.shift(0, 0, 1, 0, 0), NOTHING);
        }
    }

    @Says(promise = 34, value = "NONE: tape")
    void noSuchTape() {
        for (int tape : NO_TAPE) {
            due("tape " + tape, new EstateVessels().tape(tape, 3, 1), NONE);
            due("nothing, tape " + tape, new EstateVessels().tape(tape, -1, 1), NONE);
        }
    }

    private static EstateVessels row() {
        EstateVessels x = new EstateVessels();
        Make.longs(x, 0, 7, 8, 9);
        return x;
    }

    private void dueRow(EstateVessels x) {
        for (int k = 0; k < 3; k++) {
            due("item as it was", x.peek(0, k), 7 + k);
        }
        due("length as it was", x.peek(0, 3), NO);
    }

    @Says(promise = 34, value = "BAD: sort")
    void noSuchSort() {
        for (int sort : new int[] {-2, -3, 5, 6, LEAST, MOST}) {
            EstateVessels x = row();
            due("sort " + sort, x.tape(0, sort, 3), BAD);
            dueRow(x);
        }
    }

    @Says(promise = 34, value = "n above 60")
    void rowTooLong() {
        for (int n : new int[] {61, 62, 1000, MOST}) {
            EstateVessels x = row();
            due("n " + n, x.tape(0, 3, n), BAD);
            dueRow(x);
        }
    }

    @Says(promise = 34, value = "SIZE.")
    void sizeBelowNone() {
        for (int n : new int[] {-1, -2, -60, LEAST}) {
            EstateVessels x = row();
            for (int sort = 0; sort < SORTS; sort++) {
                due("n " + n, x.tape(0, sort, n), SIZE);
            }
            dueRow(x);
        }
    }

    @Says(promise = 34, value = {"NONE: tape", "BAD: sort", "SIZE."})
    void tapeInOrder() {
        due("tape, sort, n", row().tape(6, 5, 61), NONE);
        due("tape, size", row().tape(-1, 3, -1), NONE);
        due("sort, size", row().tape(0, 5, -1), BAD);
        due("sort, size", row().tape(0, -2, LEAST), BAD);
    }

    // ---- item, peek

    private long kept(int sort, long v) {
        EstateVessels x = new EstateVessels();
        x.tape(0, sort, 1);
        due("item " + v, x.item(0, 0, v), 1);
        return x.peek(0, 0);
    }

    @Says(promise = 35, value = "Item i of a TAPE becomes v (its lowest bits, as many as an item has; booleans: whether v is"
            + " not 0): 1.")
    void lowestBitsOfItem() {
        for (int shift = 0; shift < 64; shift++) {
            for (int more = -1; more <= 1; more++) {
                long v = (1L << shift) + more;
                for (int side = 0; side < 2; side++) {
                    due("byte", kept(0, v), (byte) v);
                    due("short", kept(1, v), (short) v);
                    due("int", kept(2, v), (int) v);
                    due("long", kept(3, v), v);
                    due("boolean", kept(4, v), v != 0 ? 1 : 0);
                    v = -v;
                }
            }
        }
    }

    @Says(promise = 0, value = "4 booleans (items 0, 1)")
    void booleansAreNothingOrOne() {
        for (long v : new long[] {1, 2, -1, 256, 1L << 32, 1L << 63, NO, Long.MAX_VALUE}) {
            due("of " + v, kept(4, v), 1);
        }
        due("of 0", kept(4, 0), 0);
        EstateVessels x = new EstateVessels();
        x.tape(0, 4, 1);
        x.item(0, 0, 5);
        x.item(0, 0, 0);
        due("0 again", x.peek(0, 0), 0);
    }

    @Says(promise = 35, value = "Item i of a TAPE becomes v (its lowest bits, as many as an item has; booleans: whether v is"
            + " not 0): 1.")
    void firstAndLastItem() {
        EstateVessels x = new EstateVessels();
        x.tape(0, 3, 60);
        due("the first", x.item(0, 0, 5), 1);
        due("the last", x.item(0, 59, 6), 1);
        for (int k = 0; k < 60; k++) {
            due("item " + k, x.peek(0, k), k == 0 ? 5 : k == 59 ? 6 : 0);
        }
    }

    @Says(promise = 35, value = "NONE")
    void itemOfNoTape() {
        for (int tape : NO_TAPE) {
            due("tape " + tape, row().item(tape, 0, 1), NONE);
        }
    }

    @Says(promise = 35, value = "NOTHING")
    void itemOfNothing() {
        EstateVessels x = row();
        for (int place : new int[] {0, -1, 60, LEAST, MOST}) {
            due("place " + place, x.item(1, place, 1), NOTHING);
        }
    }

    @Says(promise = 35, value = "PLACE.")
    void itemOfNoPlace() {
        EstateVessels x = row();
        for (int place : NO_PLACE_OF_THREE) {
            due("place " + place, x.item(0, place, 1), PLACE);
        }
        dueRow(x);
        x.tape(0, 2, 0);
        due("of none", x.item(0, 0, 1), PLACE);
        x.tape(0, 2, 60);
        due("of 60", x.item(0, 60, 1), PLACE);
    }

    @Says(promise = 36, value = "Item i of a TAPE.")
    void itemsTold() {
        dueRow(row());
        EstateVessels x = new EstateVessels();
        for (int tape = 0; tape < 6; tape++) {
            Make.longs(x, tape, 10 * tape, 10 * tape + 1);
        }
        for (int tape = 0; tape < 6; tape++) {
            due("tape " + tape, x.peek(tape, 1), 10 * tape + 1);
        }
    }

    @Says(promise = 36, value = "NO: no such TAPE, nothing there, no such place.")
    void noneTold() {
        EstateVessels x = row();
        for (int tape : NO_TAPE) {
            due("tape " + tape, x.peek(tape, 0), NO);
        }
        for (int place : NO_PLACE_OF_THREE) {
            due("place " + place, x.peek(0, place), NO);
            due("nothing, place " + place, x.peek(1, place), NO);
        }
        due("nothing", x.peek(1, 0), NO);
        x.tape(1, 3, 0);
        due("of none", x.peek(1, 0), NO);
    }

    // ---- shift

    private static EstateVessels counted(int length) {
        EstateVessels x = new EstateVessels();
        x.tape(0, 3, length);
        for (int k = 0; k < length; k++) {
            x.item(0, k, k + 1);
        }
        return x;
    }

    @Says(promise = 37, value = "n items of a TAPE from i on come to another one (or the same) from j on, as they all were"
            + " before: n.")
    void shiftedWithinOne() {
        for (int i = 0; i <= 6; i++) {
            for (int j = 0; j <= 6; j++) {
                for (int n = 0; n <= 6 - Math.max(i, j); n++) {
                    EstateVessels x = counted(6);
                    due("shift " + i + " " + j + " " + n, x.shift(0, i, 0, j, n), n);
                    for (int k = 0; k < 6; k++) {
                        due("item " + k, x.peek(0, k), k >= j && k < j + n ? k - j + i + 1 : k + 1);
                    }
                }
            }
        }
    }

    @Says(promise = 37, value = "n items of a TAPE from i on come to another one (or the same) from j on, as they all were"
            + " before: n.")
    void shiftedToAnother() {
        for (int sort = 0; sort < SORTS; sort++) {
            EstateVessels x = new EstateVessels();
            x.tape(4, sort, 60);
            x.tape(5, sort, 3);
            for (int k = 0; k < 60; k++) {
                x.item(4, k, k % 2);
            }
            due("the last three", x.shift(4, 57, 5, 0, 3), 3);
            for (int k = 0; k < 3; k++) {
                due("item " + k, x.peek(5, k), (k + 1) % 2);
                due("as it was", x.peek(4, 57 + k), (k + 1) % 2);
            }
            due("none behind", x.peek(5, 3), NO);
            x.item(4, 57, 0);
            due("they are others", x.peek(5, 0), 1);
        }
    }

    @Says(promise = 37, value = "NONE: tapes")
    void shiftOfNoTape() {
        for (int tape : NO_TAPE) {
            due("from " + tape, row().shift(tape, 0, 0, 0, 1), NONE);
            due("to " + tape, row().shift(0, 0, tape, 0, 1), NONE);
            due("from nothing to " + tape, row().shift(1, 0, tape, 0, 1), NONE);
        }
    }

    @Says(promise = 37, value = "NOTHING")
    void shiftOfNothing() {
        EstateVessels x = row();
        due("from nothing", x.shift(1, 0, 0, 0, 1), NOTHING);
        due("to nothing", x.shift(0, 0, 1, 0, 1), NOTHING);
        due("from nothing to it", x.shift(1, 0, 1, 0, 0), NOTHING);
        due("place", x.shift(1, -1, 0, 0, -1), NOTHING);
        dueRow(x);
    }

    @Says(promise = 37, value = "CAST: of unlike sorts")
    void shiftOfUnlikeSorts() {
        for (int from = 0; from < SORTS; from++) {
            for (int to = 0; to < SORTS; to++) {
                EstateVessels x = new EstateVessels();
                x.tape(1, from, 3);
                x.tape(2, to, 3);
                x.item(1, 0, 1);
                due("from " + from + " to " + to, x.shift(1, 0, 2, 0, 1), from == to ? 1 : CAST);
                due("item", x.peek(2, 0), from == to ? 1 : 0);
                due("none of them", x.shift(1, 0, 2, 0, 0), from == to ? 0 : CAST);
                due("of no place", x.shift(1, -1, 2, 0, 1), from == to ? PLACE : CAST);
            }
        }
    }

    private void duePlace(EstateVessels x, int i, int j, int n) {
        due("shift " + i + " " + j + " " + n, x.shift(0, i, 1, j, n), PLACE);
    }

    @Says(promise = 37, value = "PLACE: n, i or j is below 0")
    void shiftBelowNone() {
        EstateVessels x = row();
        x.tape(1, 3, 3);
        for (int v : new int[] {-1, -2, LEAST}) {
            duePlace(x, 0, 0, v);
            duePlace(x, v, 0, 0);
            duePlace(x, 0, v, 0);
            duePlace(x, v, 0, 1);
            duePlace(x, 0, v, 1);
            duePlace(x, v, 0, MOST);
            duePlace(x, 0, v, MOST);
            duePlace(x, 3, 3, v);
        }
        dueRow(x);
        due("as it was", x.peek(1, 0), 0);
    }

    @Says(promise = 37, value = "or beyond either's end.")
    void shiftBeyondEnd() {
        EstateVessels x = row();
        x.tape(1, 3, 2);
        duePlace(x, 0, 0, 3);
        duePlace(x, 1, 0, 3);
        duePlace(x, 2, 0, 2);
        duePlace(x, 3, 0, 1);
        duePlace(x, 4, 0, 0);
        duePlace(x, 0, 1, 2);
        duePlace(x, 0, 2, 1);
        duePlace(x, 0, 3, 0);
        for (int v : new int[] {60, MOST - 1, MOST}) {
            duePlace(x, v, 0, 1);
            duePlace(x, 0, v, 1);
            duePlace(x, 0, 0, v);
            duePlace(x, 1, 1, v);
            duePlace(x, v, v, v);
        }
        dueRow(x);
        due("as it was", x.peek(1, 0), 0);
        due("none at both ends", x.shift(0, 3, 1, 2, 0), 0);
        due("to both ends", x.shift(0, 1, 1, 0, 2), 2);
        due("8", x.peek(1, 0), 8);
        due("9", x.peek(1, 1), 9);
    }

    @Says(promise = 37, value = {"NONE: tapes", "NOTHING", "CAST: of unlike sorts", "PLACE: n, i or j is below 0"})
    void shiftInOrder() {
        EstateVessels x = row();
        x.tape(1, 2, 3);
        due("tape, nothing, place", x.shift(6, -1, 2, -1, -1), NONE);
        due("tape, cast", x.shift(1, 0, -1, 0, 1), NONE);
        due("nothing, place", x.shift(1, -1, 2, 0, 1), NOTHING);
        due("cast, place", x.shift(0, 4, 1, 0, 1), CAST);
    }
}
