/** Set-ups to begin with. */
final class Make {
    private Make() {
    }

    static EstateVessels of(int estate, int... claims) {
        EstateVessels x = new EstateVessels();
        for (int claim : claims) {
            x.claim(claim);
        }
        x.estate(estate);
        return x;
    }

    static Reference reference(int estate, int... claims) {
        Reference y = new Reference();
        for (int claim : claims) {
            y.claim(claim);
        }
        y.estate(estate);
        return y;
    }

    static void feed(EstateVessels x, String text) {
        for (int k = 0; k < text.length(); k++) {
            x.feed(text.charAt(k));
        }
    }

    static int read(EstateVessels x, String text) {
        feed(x, text);
        return x.read();
    }

    /** A tape becomes a row of longs of these. */
    static void longs(EstateVessels x, int tape, long... items) {
        x.tape(tape, 3, items.length);
        for (int k = 0; k < items.length; k++) {
            x.item(tape, k, items[k]);
        }
    }
}
