/** Counts answers that are not as due, and ends the program by them. */
final class Checks {
    private static final long MOST_MILLIS = 600_000;

    private int right = 0;
    private int wrong = 0;

    Checks() {
        Thread guard = new Thread(this::endLate);
        guard.setDaemon(true);
        guard.start();
    }

    /** A call that doesn't end fails the test, too. */
    private void endLate() {
        try {
            Thread.sleep(MOST_MILLIS);
            System.out.println("a call doesn't end");
            Runtime.getRuntime().halt(1);
        } catch (InterruptedException ended) {
            Thread.currentThread().interrupt();
        }
    }

    void due(String call, long got, long want) {
        if (got == want) {
            right++;
            return;
        }
        wrong++;
        if (wrong <= 50) {
            System.out.println(call + " answered " + got + ", due is " + want);
        }
    }

    void holds(String what, boolean so) {
        due(what, so ? 1 : 0, 1);
    }

    int all() {
        return right + wrong;
    }

    int wrong() {
        return wrong;
    }

    void finish(String name) {
        System.out.println(name + ": " + right + " answers as due, " + wrong + " not");
        if (wrong != 0 || right == 0) {
            System.exit(1);
        }
    }
}
