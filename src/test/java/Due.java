/** Compares answers with those that are due, prints every wrong one, and ends a test that had one with exit code 1. */
final class Due {
    private final String test;
    private int asked;
    private int wrong;

    Due(String test) {
        this.test = test;
    }

    void is(String call, long want, long got) {
        asked++;
        if (want != got) {
            wrong++;
            System.out.println(test + ": " + call + " answered " + got + ", due is " + want);
        }
    }

    void is(String call, boolean want, boolean got) {
        is(call, want ? 1 : 0, got ? 1 : 0);
    }

    /** Asks frame(i, 0), frame(i, 1), .. for as many as are due. */
    void frameIs(LongTransfer x, int i, int... want) {
        for (int what = 0; what < want.length; what++) {
            is("frame(" + i + ", " + what + ")", want[what], x.frame(i, what));
        }
    }

    void framesAre(LongTransfer x, int want) {
        is("frame(0, 0)", want, x.frame(0, 0));
    }

    /** Asks ended(0) to ended(7). */
    void countsAre(LongTransfer x, int... want) {
        for (int what = 0; what < want.length; what++) {
            is("ended(" + what + ")", want[what], x.ended(what));
        }
    }

    /** The class has to throw by itself; the machine's own exception tells the index in its text. */
    void gotThrows(LongTransfer x, int i) {
        boolean thrown = false;
        try {
            x.got(i);
        } catch (ArrayIndexOutOfBoundsException e) {
            thrown = e.getMessage() == null || !e.getMessage().startsWith("Index ");
        }
        is("got(" + i + ") throws", true, thrown);
    }

    void finish() {
        System.out.println(test + ": " + asked + " answers, " + wrong + " of them wrong");
        if (wrong != 0 || asked == 0) {
            System.exit(1);
        }
    }
}
