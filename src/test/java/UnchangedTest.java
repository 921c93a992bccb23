import java.util.ArrayList;
import java.util.Arrays;
import java.util.List;

/** What is answered by a refusal, and what is asked, changes nothing: all is looked at behind each such call. */
public final class UnchangedTest {
    private static final int STATES = 6;
    /** So many calls of one object, one behind the other, leave room for the looking. */
    private static final int CHAIN = 100;
    private static final long FAULT_OF_READ = -10;

    private final Checks checks = new Checks();
    private final List<Calls.Named> calls = Calls.all();

    private UnchangedTest() {
    }

    public static void main(String[] args) {
        UnchangedTest test = new UnchangedTest();
        for (int state = 0; state < STATES; state++) {
            test.eachAlone(state);
            test.oneBehindTheOther(state);
            test.faultOfText(state);
        }
        test.checks.finish("UnchangedTest");
    }

    // ---- states

    private static EstateVessels make(int state) {
        switch (state) {
            case 0: return new EstateVessels();
            case 1: return Make.of(5, 10);
            case 2: return rich();
            case 3: return full();
            case 4: {
                EstateVessels x = rich();
                x.estate(61);
                return x;
            }
            default: {
                EstateVessels x = full();
                x.estate(40);
                x.rule(5);
                return x;
            }
        }
    }

    private static EstateVessels rich() {
        EstateVessels x = Make.of(8, 4, 9);
        x.rule(1);
        x.see(0, 1);
        x.event(1, 1);
        x.book(0, 1);
        x.book(1, 6);
        x.image();
        x.renew(0, 10);
        x.renew(1, 20);
        x.claim(30);
        x.estate(30);
        x.rule(3);
        x.see(-1, 0);
        x.see(0, 5);
        x.see(2, 15);
        x.event(0, 1);
        x.event(3, 5);
        x.event(2, 2);
        x.book(-1, 0);
        x.book(0, 5);
        x.book(1, 10);
        x.book(2, 15);
        x.book(0, 4);
        Make.feed(x, "c5;e7;r1;n06");
        Make.longs(x, 0, 5, 10, 15);
        for (int sort = 0; sort < 5; sort++) {
            x.tape(sort + 1, sort == 3 ? -1 : sort, 4);
            x.item(sort + 1, 1, 1);
        }
        return x;
    }

    private static EstateVessels full() {
        EstateVessels x = Make.of(21, 1, 2, 3, 4, 5, 6);
        for (int k = 0; k < 8; k++) {
            x.see(k % 6, k % 6 + 1);
            x.event(k % 2 == 0 ? 0 : 3, k % 6);
            x.book(k % 6, k % 6 + 1);
        }
        x.image();
        x.renew(0, 9);
        for (int k = 0; k < 100; k++) {
            x.feed(k == 0 ? 'c' : '1');
        }
        x.tape(0, 3, 60);
        for (int k = 0; k < 8; k++) {
            x.item(0, k, k + 1);
        }
        x.tape(1, 3, 0);
        x.tape(2, 4, 60);
        return x;
    }

    // ---- all that can be looked at

    private static long[] seen(EstateVessels x) {
        List<Long> seen = new ArrayList<>();
        lookAt(x, seen);
        for (int tape = 0; tape < 6; tape++) {
            for (int place : new int[] {0, 1, 2, 3, 7, 59}) {
                seen.add(x.peek(tape, place));
            }
            seen.add((long) x.judge(tape, 0));
        }
        // What the text and the image hold is seen by what they make.
        seen.add((long) x.read());
        lookAtClaims(x, seen);
        seen.add((long) x.undo());
        lookAt(x, seen);
        long[] row = new long[seen.size()];
        for (int k = 0; k < row.length; k++) {
            row[k] = seen.get(k);
        }
        return row;
    }

    private static void lookAtClaims(EstateVessels x, List<Long> seen) {
        for (int k = 0; k < 6; k++) {
            seen.add((long) x.of(k));
            seen.add((long) x.told(k));
            seen.add((long) x.count(k));
        }
    }

    private static void lookAt(EstateVessels x, List<Long> seen) {
        lookAtClaims(x, seen);
        for (int rule = 0; rule < 6; rule++) {
            for (int i = 0; i < 6; i++) {
                seen.add(x.award(rule, i, 0));
            }
        }
        for (int what = 0; what < 3; what++) {
            for (int i = 0; i < 6 && what < 2; i++) {
                seen.add((long) x.fits(i, what));
            }
            seen.add(x.after(what));
        }
        seen.add((long) x.looked());
        seen.add(x.alone(5, 0, 1, 0));
        seen.add(x.poured(3, 7, 0));
    }

    // ---- tests

    /** Whether it was answered so that nothing may have changed. */
    private static boolean leavesAll(Calls.Named call, long answer) {
        return call.asks || answer < 0;
    }

    private void dueSame(int state, String name, long[] got, long[] due) {
        int first = Arrays.mismatch(got, due);
        if (first >= 0) {
            long was = first < due.length ? due[first] : 0;
            long is = first < got.length ? got[first] : 0;
            checks.due("what is seen " + first + " of state " + state + " behind " + name, is, was);
        } else {
            checks.holds(name, true);
        }
    }

    private void eachAlone(int state) {
        long[] due = seen(make(state));
        int refused = 0;
        for (Calls.Named named : calls) {
            EstateVessels x = make(state);
            long answer = named.call.of(x);
            if (leavesAll(named, answer)) {
                dueSame(state, named.name, seen(x), due);
                refused += named.asks ? 0 : 1;
                checks.due(named.name + " once more", named.call.of(again(state, named)), answer);
            }
        }
        checks.holds("much is refused", refused > 200);
    }

    /** An object of which it was called once. */
    private static EstateVessels again(int state, Calls.Named named) {
        EstateVessels x = make(state);
        named.call.of(x);
        return x;
    }

    private void oneBehindTheOther(int state) {
        long[] due = seen(make(state));
        List<Calls.Named> leaving = new ArrayList<>();
        for (Calls.Named named : calls) {
            if (leavesAll(named, named.call.of(make(state)))) {
                leaving.add(named);
            }
        }
        for (int from = 0; from < leaving.size(); from += CHAIN) {
            EstateVessels x = make(state);
            int to = Math.min(leaving.size(), from + CHAIN);
            for (Calls.Named named : leaving.subList(from, to)) {
                named.call.of(x);
            }
            dueSame(state, "calls " + from + " to " + to, seen(x), due);
        }
    }

    /** By a fault the text is empty, and all else is as it was. */
    private void faultOfText(int state) {
        for (String fault : new String[] {"", "x", "c5;e7;r2;n09;", "e3;r1;c", "c1;c2;c3;c4;c5;c6;c1;e1;e2;e3;r1;r2;r3"}) {
            EstateVessels x = make(state);
            x.read();
            x.undo();
            long[] due = seen(x);
            EstateVessels y = make(state);
            y.read();
            y.undo();
            checks.holds("a fault", Make.read(y, fault) <= FAULT_OF_READ);
            dueSame(state, "read of " + fault, seen(y), due);
        }
    }
}
