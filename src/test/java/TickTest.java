/** Promise 8: which times are taken, the order of what happens at one time, and what happens with 6000 frames. */
final class TickTest {
    private static final Due due = new Due("TickTest");

    public static void main(String[] args) {
        timesOutsideAreRefused();
        messagesGoFirst();
        sendersGoByMessages();
        sendersInterleaveByTime();
        receiversGoOneTwoThreeZero();
        sendersGoBeforeReceivers();
        somethingAtEveryTime();
        allThatEndsIsCounted();
        fullFramesEndTheSides();
        overflowWithFullFrames();
        tooLongWithFullFrames();
        due.finish();
    }

    private static void timesOutsideAreRefused() {
        LongTransfer x = new LongTransfer(100);
        x.send(1);
        due.is("tick(-1)", -2, x.tick(-1));
        due.is("tick(5001)", -2, x.tick(5001));
        due.is("tick(min)", -2, x.tick(Long.MIN_VALUE));
        due.is("tick(max)", -2, x.tick(Long.MAX_VALUE));
        due.is("tick(2^32)", -2, x.tick(1L << 32));
        due.framesAre(x, 0);
        due.is("tick(5000)", 0, x.tick(5000));
        due.framesAre(x, 1);
        due.is("tick(4999)", -2, x.tick(4999));
        due.is("tick(5000)", 0, x.tick(5000));
        due.is("tick(10001)", -2, x.tick(10001));
        due.is("tick(10000)", 0, x.tick(10000));
        x.send(1);
        x.tick(10000);
        due.is("frame(2, 4)", 10000, x.frame(2, 4));
    }

    private static void messagesGoFirst() {
        LongTransfer x = new LongTransfer(100);
        x.send(20);
        x.tick(0);
        x.receive(1);
        x.receive(2);
        x.send(9);
        x.tick(0);
        due.frameIs(x, 3, 1, 2, 9, 6, 0, 0);
        due.frameIs(x, 4, 2, 1, 1, 7, 0, 0);
        due.frameIs(x, 5, 2, 1, 2, 7, 0, 0);
    }

    private static void sendersGoByMessages() {
        LongTransfer x = new LongTransfer(100);
        x.send(20);
        x.send(20);
        x.send(20);
        x.tick(0);
        x.receive(3);
        x.receive(2);
        x.receive(1);
        x.receive(4);
        x.receive(5);
        x.receive(6);
        x.tick(1);
        for (int i = 7; i <= 12; i++) {
            due.frameIs(x, i, 2, 1 + (i - 7) / 2, 1 + (i - 7) % 2, 7, 0, 0);
        }
    }

    private static void sendersInterleaveByTime() {
        LongTransfer x = new LongTransfer(100);
        x.send(27);
        x.send(27);
        x.tick(0);
        x.flow(0, 4, 0);
        x.receive(1);
        x.flow(0, 2, 0);
        x.receive(2);
        x.receive(3);
        x.receive(4);
        x.tick(7);
        int[][] want = {{1, 1, 0}, {2, 1, 0}, {2, 2, 2}, {1, 2, 4}, {2, 3, 4}};
        due.framesAre(x, 9);
        for (int k = 0; k < want.length; k++) {
            due.frameIs(x, 5 + k, 2, want[k][0], want[k][1], 7, want[k][2], 0);
        }
        x.tick(8);
        due.frameIs(x, 10, 2, 1, 3, 7, 8, 0);
    }

    private static void receiversGoOneTwoThreeZero() {
        LongTransfer x = new LongTransfer(100);
        for (int m = 1; m <= 4; m++) {
            x.send(20);
        }
        x.tick(0);
        x.flow(0, 0, 1);
        x.receive(4);
        x.receive(3);
        x.receive(2);
        x.receive(1);
        x.tick(500);
        due.framesAre(x, 12);
        for (int m = 1; m <= 4; m++) {
            due.frameIs(x, 8 + m, 3, m, 1, 0, 500, 0);
        }
    }

    private static void sendersGoBeforeReceivers() {
        LongTransfer x = new LongTransfer(100);
        x.send(20);
        x.send(20);
        x.tick(0);
        x.flow(0, 100, 0);
        x.receive(2);
        x.tick(400);
        x.flow(0, 0, 1);
        x.receive(1);
        x.receive(3);
        x.tick(900);
        due.framesAre(x, 7);
        due.frameIs(x, 5, 2, 2, 1, 7, 400, 0);
        due.frameIs(x, 6, 2, 2, 2, 7, 500, 0);
        due.frameIs(x, 7, 3, 1, 1, 0, 900, 0);

        LongTransfer y = new LongTransfer(100);
        y.send(20);
        y.send(20);
        y.tick(0);
        y.flow(0, 100, 0);
        y.receive(2);
        y.flow(0, 0, 1);
        y.receive(1);
        y.tick(400);
        y.receive(3);
        y.tick(500);
        due.frameIs(y, 6, 2, 2, 2, 7, 500, 0);
        due.frameIs(y, 7, 3, 1, 1, 0, 500, 0);
    }

    /** Four senders in turn, each every fourth tick: 5001 times at which a frame is made, in one call. */
    private static void somethingAtEveryTime() {
        LongTransfer x = new LongTransfer(10000);
        for (int m = 1; m <= 4; m++) {
            x.send(10000);
        }
        x.tick(0);
        x.flow(0, 4, 0);
        for (int m = 1; m <= 4; m++) {
            x.receive(m);
        }
        for (int m = 1; m <= 4; m++) {
            x.tick(m - 1);
            x.receive(4 + m);
        }
        due.framesAre(x, 11);
        due.is("tick(5003)", 4, x.tick(5003));
        due.framesAre(x, 11 + 5001);
        for (int time = 0; time <= 5003; time++) {
            due.is("frame(" + (9 + time) + ", 4)", time, x.frame(9 + time, 4));
            due.is("frame(" + (9 + time) + ", 1)", 1 + time % 4, x.frame(9 + time, 1));
        }
    }

    private static void allThatEndsIsCounted() {
        LongTransfer x = new LongTransfer(100);
        for (int m = 1; m <= 6; m++) {
            x.send(20);
        }
        x.tick(0);
        x.receive(1);
        x.receive(2);
        due.is("tick(5000)", 8, x.tick(5000));
        due.countsAre(x, 0, 6, 2, 0, 0, 0, 0, 0);
        due.is("tick(5000)", 0, x.tick(5000));
    }

    /** Four messages of 10000 octets make 5724 frames with their flows; a fifth one stays without its last ones. */
    private static void fullFramesEndTheSides() {
        LongTransfer x = new LongTransfer(65536);
        for (int m = 1; m <= 5; m++) {
            x.send(10000);
        }
        for (int m = 6; m <= 8; m++) {
            x.send(20);
        }
        x.tick(0);
        for (int m = 1; m <= 5; m++) {
            x.receive(m);
            x.receive(8 + m);
        }
        x.flow(0, 0, 1);
        x.receive(6);
        due.framesAre(x, 14);
        due.is("tick(0)", 1, x.tick(0));
        due.framesAre(x, 6000);
        due.countsAre(x, 0, 0, 0, 0, 0, 0, 2, 1);
        due.frameIs(x, 6000, 2, 5);
        due.is("frame(6001, 0)", -1, x.frame(6001, 0));

        due.is("a first frame without room for its flow", 3, x.receive(8));
        due.is("ended(7)", 2, x.ended(7));
        x.send(1);
        x.send(20);
        due.is("tick(0)", 2, x.tick(0));
        due.is("ended(7)", 4, x.ended(7));
        due.framesAre(x, 6000);
        due.is("a first frame that ends another", 3, x.receive(7));
        due.is("tick(499)", 0, x.tick(499));
        due.is("the wait can't be answered again", 1, x.tick(500));
        due.is("ended(7)", 6, x.ended(7));
        due.is("ended(4)", 0, x.ended(4));
    }

    private static void overflowWithFullFrames() {
        LongTransfer x = new LongTransfer(65536);
        for (int m = 1; m <= 5; m++) {
            x.send(10000);
        }
        x.send(20);
        x.tick(0);
        for (int m = 1; m <= 5; m++) {
            x.receive(m);
            x.receive(6 + m);
        }
        x.tick(0);
        x.flow(0, 0, 2);
        due.is("an overflow that can't be told", 3, x.receive(6));
        due.is("ended(4)", 0, x.ended(4));
        due.is("ended(7)", 2, x.ended(7));
    }

    private static void tooLongWithFullFrames() {
        LongTransfer x = new LongTransfer(9000);
        for (int m = 1; m <= 5; m++) {
            x.send(9000);
        }
        x.send(9001);
        x.tick(0);
        for (int m = 1; m <= 5; m++) {
            x.receive(m);
            x.receive(6 + m);
        }
        due.framesAre(x, 11);
        x.tick(0);
        fillFrames(x);
        due.is("a message too long with full frames", 3, x.receive(6));
        due.is("ended(4)", 0, x.ended(4));
    }

    private static void fillFrames(LongTransfer x) {
        for (int k = 0; k < 90 && x.frame(0, 0) < 6000; k++) {
            x.send(9000);
            x.tick(0);
            int first = x.frame(0, 0);
            x.receive(first);
            x.receive(first + 1);
            x.tick(0);
        }
        due.framesAre(x, 6000);
    }
}
