/** Promises 2, 3 and 13: send, octet and functional. */
final class MessagesTest {
    private static final Due due = new Due("MessagesTest");

    public static void main(String[] args) {
        messagesAreNumbered();
        wrongLengthsAreRefused();
        thereAreAtMostAHundred();
        aMessageIsSentByTheNextTick();
        octetsAreThoseOfTheFramesTime();
        octetsThatAreNoneDoNothing();
        functionalMessagesAreShort();
        due.finish();
    }

    private static void messagesAreNumbered() {
        LongTransfer x = new LongTransfer(0);
        due.is("send(1)", 1, x.send(1));
        due.is("send(0)", 0, x.send(0));
        due.is("send(7)", 2, x.send(7));
        due.is("send(8)", 3, x.send(8));
        due.is("send(4096)", 4, x.send(4096));
        due.is("send(10000)", 5, x.send(10000));
        due.is("functional(false)", 5, x.functional(false));
    }

    private static void wrongLengthsAreRefused() {
        LongTransfer x = new LongTransfer(0);
        due.is("send(-1)", -2, x.send(-1));
        due.is("send(10001)", -2, x.send(10001));
        due.is("send(min)", -2, x.send(Integer.MIN_VALUE));
        due.is("send(max)", -2, x.send(Integer.MAX_VALUE));
        due.is("functional(true)", 0, x.functional(true));
        due.is("send(10001)", -2, x.send(10001));
        x.tick(0);
        due.framesAre(x, 0);
    }

    private static void thereAreAtMostAHundred() {
        LongTransfer x = new LongTransfer(0);
        for (int m = 1; m <= 100; m++) {
            due.is("send(1)", m, x.send(1));
        }
        due.is("send(1)", -4, x.send(1));
        due.is("send(10000)", -4, x.send(10000));
        due.is("send(-1)", -2, x.send(-1));
        due.is("send(10001)", -2, x.send(10001));
        // A refusal is looked for before the answer 0.
        due.is("send(0)", -4, x.send(0));
        due.is("functional(true)", 100, x.functional(true));
        due.is("send(8)", -4, x.send(8));
        x.tick(0);
        due.framesAre(x, 100);
        due.frameIs(x, 100, 0, 100, 0, 1, 0, 0);
    }

    private static void aMessageIsSentByTheNextTick() {
        LongTransfer x = new LongTransfer(0);
        x.tick(4);
        x.send(1);
        x.send(0);
        x.send(8);
        due.framesAre(x, 0);
        x.tick(9);
        due.framesAre(x, 2);
        due.frameIs(x, 1, 0, 1, 0, 1, 4, 0);
        due.frameIs(x, 2, 1, 2, 8, 6, 4, 0);
        x.tick(10);
        due.framesAre(x, 2);
        x.send(2);
        due.is("tick(9)", -2, x.tick(9));
        due.framesAre(x, 2);
        x.tick(10);
        due.frameIs(x, 3, 0, 3, 0, 2, 10, 0);
    }

    private static void octetsAreThoseOfTheFramesTime() {
        LongTransfer x = new LongTransfer(100);
        x.send(20);
        x.octet(1, 0, (byte) 1);
        x.octet(1, 0, (byte) 2);
        x.octet(1, 5, (byte) -128);
        x.octet(1, 6, (byte) 127);
        x.tick(0);
        x.octet(1, 0, (byte) 99);
        due.is("frame(1, 8)", 2, x.frame(1, 8));
        due.is("frame(1, 13)", 128, x.frame(1, 13));
        due.is("frame(1, 14)", 0, x.frame(1, 14));
        x.octet(1, 12, (byte) -1);
        x.octet(1, 19, (byte) 3);
        x.receive(1);
        x.receive(2);
        x.tick(0);
        x.octet(1, 19, (byte) 4);
        due.is("frame(3, 8)", 127, x.frame(3, 8));
        due.is("frame(3, 9)", 0, x.frame(3, 9));
        due.is("frame(3, 14)", 255, x.frame(3, 14));
        x.receive(3);
        x.receive(4);
        due.is("got(0)", 2, x.got(0));
        due.is("got(5)", -128, x.got(5));
        due.is("got(6)", 127, x.got(6));
        due.is("got(12)", -1, x.got(12));
        due.is("got(19)", 3, x.got(19));
        due.is("got(1)", 0, x.got(1));
    }

    private static void octetsThatAreNoneDoNothing() {
        LongTransfer x = new LongTransfer(0);
        x.octet(1, 0, (byte) 9);
        x.send(2);
        x.octet(0, 0, (byte) 9);
        x.octet(-1, 0, (byte) 9);
        x.octet(2, 0, (byte) 9);
        x.octet(Integer.MIN_VALUE, 0, (byte) 9);
        x.octet(Integer.MAX_VALUE, 0, (byte) 9);
        x.octet(1, -1, (byte) 9);
        x.octet(1, 2, (byte) 9);
        x.octet(1, Integer.MIN_VALUE, (byte) 9);
        x.octet(1, Integer.MAX_VALUE, (byte) 9);
        x.send(1);
        x.tick(0);
        for (int what = 8; what <= 14; what++) {
            due.is("frame(1, " + what + ")", 0, x.frame(1, what));
            due.is("frame(2, " + what + ")", 0, x.frame(2, what));
        }
    }

    private static void functionalMessagesAreShort() {
        LongTransfer x = new LongTransfer(100);
        due.is("send(8)", 1, x.send(8));
        due.is("functional(true)", 1, x.functional(true));
        due.is("send(8)", 0, x.send(8));
        due.is("send(10000)", 0, x.send(10000));
        due.is("send(0)", 0, x.send(0));
        due.is("send(7)", 2, x.send(7));
        due.is("functional(true)", 2, x.functional(true));
        due.is("send(8)", 0, x.send(8));
        due.is("functional(false)", 2, x.functional(false));
        due.is("send(8)", 3, x.send(8));
        x.functional(true);
        x.tick(0);
        due.framesAre(x, 3);
        due.frameIs(x, 1, 1, 1, 8, 6, 0, 0);
        due.frameIs(x, 2, 0, 2, 0, 7, 0, 0);
        due.frameIs(x, 3, 1, 3, 8, 6, 0, 0);
    }
}
