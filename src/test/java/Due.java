/** What is due: counts and prints every answer that is not. */
final class Due {
    static final int NONE = -1, UNKNOWN = -1000000001, OUTSIDE = -1000000002, NOT = -1000000003, FULL = -1000000004;

    private int wrong;
    private int asked;

    void is(String call, int got, int want) {
        asked++;
        if (got != want) {
            wrong++;
            System.out.println(call + " answered " + got + ", due is " + want);
        }
    }

    void end(String name) {
        System.out.println(name + ": " + asked + " answers, " + wrong + " not as due");
        if (wrong != 0 || asked == 0) {
            System.exit(1);
        }
    }

    static void feedAll(PraiseDuels x, String text) {
        for (int i = 0; i < text.length(); i++) {
            x.feed(text.charAt(i));
        }
    }

    static PraiseDuels meadow(String text) {
        PraiseDuels x = new PraiseDuels();
        feedAll(x, text);
        if (x.meadow() < 0) {
            throw new IllegalStateException("a FAULT in " + text);
        }
        return x;
    }

    /** told(what) for each what from 0 on. */
    void tells(String when, PraiseDuels x, int... want) {
        for (int what = 0; what < want.length; what++) {
            is(when + ": told(" + what + ")", x.told(what), want[what]);
        }
    }

    /** duellist(d, what) for each what from a first one on. */
    void has(String when, PraiseDuels x, int d, int from, int... want) {
        for (int i = 0; i < want.length; i++) {
            int what = from + i;
            is(when + ": duellist(" + d + ", " + what + ")", x.duellist(d, what), want[i]);
        }
    }
}
