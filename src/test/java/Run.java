/** A run of calls on one new object: each takes the arguments and then the answer that is due. */
final class Run {
    private static final int MOST_CALLS = 512;

    private final Sentences doc;
    private final LongTransfer x;
    private final String name;
    private int calls;

    Run(Sentences doc, int room) {
        this.doc = doc;
        x = new LongTransfer(room);
        name = "new LongTransfer(" + room + "), call ";
    }

    /** A run whose messages of these lengths have been sent at time 0. */
    static Run sent(Sentences doc, int room, int... lengths) {
        Run run = new Run(doc, room);
        run.sends(lengths);
        run.tick(0, 0);
        return run;
    }

    int calls() {
        return calls;
    }

    private String call(String what) {
        calls++;
        if (calls > MOST_CALLS) {
            doc.fault("a run of more than " + MOST_CALLS + " calls promises nothing");
        }
        return name + calls + ": " + what;
    }

    private void due(String what, long want, long got) {
        doc.is(call(what), want, got);
    }

    void send(int n, int want) {
        due("send(" + n + ")", want, x.send(n));
    }

    /** The first messages of the run, one for each length. */
    void sends(int... lengths) {
        for (int m = 1; m <= lengths.length; m++) {
            send(lengths[m - 1], m);
        }
    }

    void octet(int message, int i, int b) {
        call("octet");
        x.octet(message, i, (byte) b);
    }

    void frame(int i, int what, int want) {
        due("frame(" + i + ", " + what + ")", want, x.frame(i, what));
    }

    void frames(int want) {
        frame(0, 0, want);
    }

    /** Asks for the kind, then the message, and so on, for as many as are due. */
    void frameIs(int i, int... want) {
        for (int what = 0; what < want.length; what++) {
            frame(i, what, want[what]);
        }
    }

    void octetsAre(int i, int... want) {
        for (int k = 0; k < 7; k++) {
            frame(i, 8 + k, k < want.length ? want[k] : 0);
        }
    }

    void receive(int frame, int want) {
        due("receive(" + frame + ")", want, x.receive(frame));
    }

    void receiveAll(int from, int to, int want) {
        for (int i = from; i <= to; i++) {
            receive(i, want);
        }
    }

    void lose(int frame, boolean want) {
        due("lose(" + frame + ")", want ? 1 : 0, x.lose(frame) ? 1 : 0);
    }

    void loseAll(int from, int to) {
        for (int i = from; i <= to; i++) {
            lose(i, true);
        }
    }

    void flow(int block, int separation, int kind, int want) {
        due("flow(" + block + ", " + separation + ", " + kind + ")", want, x.flow(block, separation, kind));
    }

    void tick(long t, int want) {
        due("tick(" + t + ")", want, x.tick(t));
    }

    void got(int i, int want) {
        try {
            due("got(" + i + ")", want, x.got(i));
        } catch (ArrayIndexOutOfBoundsException e) {
            doc.fault(call("got(" + i + ") throws, due is " + want));
        }
    }

    /** The class has to throw by itself; the machine's own exception tells the index in its text. */
    void gotThrows(int i) {
        boolean thrown = false;
        try {
            x.got(i);
        } catch (ArrayIndexOutOfBoundsException e) {
            thrown = e.getMessage() == null || !e.getMessage().startsWith("Index ");
        }
        due("got(" + i + ") throws", 1, thrown ? 1 : 0);
    }

    void length(int want) {
        due("length()", want, x.length());
    }

    void ended(int what, int want) {
        due("ended(" + what + ")", want, x.ended(what));
    }

    /** Asks for how many became whole, and then how many sides were ended by each reason. */
    void counts(int... want) {
        for (int what = 0; what < 8; what++) {
            ended(what, want[what]);
        }
    }

    void wait2(int n, int want) {
        due("wait2(" + n + ")", want, x.wait2(n));
    }

    void functional(boolean on, int want) {
        due("functional(" + on + ")", want, x.functional(on));
    }
}
