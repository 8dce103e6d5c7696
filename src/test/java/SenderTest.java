/** Promises 5, 7, 8, 11 and 12 as a sender keeps them: flows that reach it, and its times. */
final class SenderTest {
    private static final Due due = new Due("SenderTest");

    public static void main(String[] args) {
        aFlowSetsItSending();
        separations();
        blocks();
        theLastFrameComesBeforeTheLastOfABlock();
        overflowEndsIt();
        waits();
        waitsOfOneSenderAddUp();
        theWaitLimitIsAsked();
        aWaitBeginsItsTimeAnew();
        itGivesUpAfterAThousandTicks();
        aBlockBeginsItsTime();
        inOtherStatesAFlowDoesNothing();
        due.finish();
    }

    /** An object whose message 1 has sent its first frame at time 0, and the flow 2 is on its way. */
    private static LongTransfer answered(int length, int block, int separation, int kind) {
        LongTransfer x = new LongTransfer(10000);
        x.send(length);
        x.tick(0);
        due.is("flow", 1, x.flow(block, separation, kind));
        x.receive(1);
        return x;
    }

    private static void aFlowSetsItSending() {
        LongTransfer x = answered(20, 0, 0, 0);
        x.tick(50);
        due.is("receive(2)", 2, x.receive(2));
        due.framesAre(x, 2);
        due.is("tick(50)", 0, x.tick(50));
        due.framesAre(x, 4);
        due.frameIs(x, 3, 2, 1, 1, 7, 50, 0);
        due.frameIs(x, 4, 2, 1, 2, 7, 50, 0);
        due.is("tick(3000)", 1, x.tick(3000));
        due.countsAre(x, 0, 0, 1, 0, 0, 0, 0, 0);
    }

    private static void separations() {
        int[][] ticks = {{0, 0}, {1, 1}, {2, 2}, {126, 126}, {127, 127}, {128, 127}, {200, 127}, {240, 127},
            {241, 1}, {245, 1}, {249, 1}, {250, 127}, {255, 127}};
        for (int[] pair : ticks) {
            LongTransfer x = answered(27, 0, pair[0], 0);
            due.is("frame(2, 5)", pair[0], x.frame(2, 5));
            x.receive(2);
            x.tick(0);
            due.framesAre(x, pair[0] == 0 ? 5 : 3);
            x.tick(500);
            due.framesAre(x, 5);
            due.is("frame(3, 4)", 0, x.frame(3, 4));
            due.is("frame(4, 4)", pair[1], x.frame(4, 4));
            due.is("frame(5, 4)", 2 * pair[1], x.frame(5, 4));
        }
    }

    private static void blocks() {
        LongTransfer x = answered(60, 3, 10, 0);
        x.receive(2);
        x.tick(100);
        due.framesAre(x, 5);
        due.frameIs(x, 5, 2, 1, 3, 7, 20, 0);
        x.receive(3);
        x.receive(4);
        x.flow(2, 1, 0);
        due.is("receive(5)", 1, x.receive(5));
        due.frameIs(x, 6, 3, 1, 0, 2, 100, 1);
        due.is("receive(6)", 2, x.receive(6));
        x.tick(200);
        due.framesAre(x, 8);
        due.frameIs(x, 7, 2, 1, 4, 7, 100, 0);
        due.frameIs(x, 8, 2, 1, 5, 7, 101, 0);
        x.receive(7);
        x.flow(0, 0, 0);
        x.receive(8);
        due.is("receive(9)", 2, x.receive(9));
        x.tick(200);
        due.framesAre(x, 12);
        due.frameIs(x, 12, 2, 1, 8, 5, 200, 0);
    }

    private static void theLastFrameComesBeforeTheLastOfABlock() {
        LongTransfer x = answered(20, 2, 0, 0);
        x.receive(2);
        x.tick(0);
        due.framesAre(x, 4);
        due.is("tick(1000)", 1, x.tick(1000));
        due.is("ended(1)", 0, x.ended(1));
        due.is("ended(2)", 1, x.ended(2));
    }

    private static void overflowEndsIt() {
        LongTransfer x = answered(20, 9, 9, 2);
        due.countsAre(x, 0, 0, 0, 0, 1, 0, 0, 0);
        due.is("receive(2)", 4, x.receive(2));
        due.countsAre(x, 0, 0, 0, 0, 2, 0, 0, 0);
        due.is("tick(5000)", 0, x.tick(5000));
        due.framesAre(x, 2);
    }

    private static void waits() {
        for (int limit = 0; limit <= 4; limit++) {
            LongTransfer x = new LongTransfer(100);
            due.is("wait2(" + limit + ")", 3, x.wait2(limit));
            x.send(20);
            x.tick(0);
            x.flow(0, 0, 1);
            x.receive(1);
            for (int k = 1; k <= limit; k++) {
                due.is("wait " + k + " of " + limit, 1, x.receive(1 + k));
                x.tick(500L * k);
            }
            due.is("one wait more", 4, x.receive(2 + limit));
            due.countsAre(x, 0, 0, 0, 0, 0, 1, 0, 0);
        }
    }

    private static void waitsOfOneSenderAddUp() {
        LongTransfer x = answered(60, 1, 0, 1);
        x.wait2(1);
        due.is("receive(2)", 1, x.receive(2));
        x.flow(1, 0, 0);
        x.tick(500);
        due.frameIs(x, 3, 3, 1, 0, 1, 500, 0);
        due.is("receive(3)", 2, x.receive(3));
        x.tick(500);
        x.flow(1, 0, 1);
        x.receive(4);
        due.is("receive(5)", 4, x.receive(5));
        due.is("ended(5)", 1, x.ended(5));
    }

    private static void theWaitLimitIsAsked() {
        LongTransfer x = new LongTransfer(0);
        due.is("wait2(-1)", -2, x.wait2(-1));
        due.is("wait2(101)", -2, x.wait2(101));
        due.is("wait2(min)", -2, x.wait2(Integer.MIN_VALUE));
        due.is("wait2(max)", -2, x.wait2(Integer.MAX_VALUE));
        due.is("wait2(100)", 3, x.wait2(100));
        due.is("wait2(101)", -2, x.wait2(101));
        due.is("wait2(0)", 100, x.wait2(0));
        due.is("wait2(5)", 0, x.wait2(5));
        due.is("wait2(5)", 5, x.wait2(5));
    }

    private static void aWaitBeginsItsTimeAnew() {
        LongTransfer x = answered(20, 0, 0, 1);
        x.flow(0, 0, 0);
        x.tick(999);
        due.is("receive(2)", 1, x.receive(2));
        due.is("tick(1998)", 1, x.tick(1998));
        due.countsAre(x, 0, 0, 1, 0, 0, 0, 0, 0);
        due.is("tick(1999)", 1, x.tick(1999));
        due.countsAre(x, 0, 1, 1, 0, 0, 0, 0, 0);
    }

    private static void itGivesUpAfterAThousandTicks() {
        LongTransfer x = new LongTransfer(100);
        x.tick(30);
        x.send(8);
        x.send(7);
        x.send(9);
        due.is("tick(1029)", 0, x.tick(1029));
        due.is("tick(1030)", 2, x.tick(1030));
        due.countsAre(x, 0, 2, 0, 0, 0, 0, 0, 0);
        x.receive(1);
        due.is("receive(4)", 4, x.receive(4));
        due.is("tick(1030)", 0, x.tick(1030));
        due.framesAre(x, 4);
    }

    private static void aBlockBeginsItsTime() {
        LongTransfer x = answered(60, 2, 100, 0);
        x.tick(200);
        x.receive(2);
        due.is("tick(1299)", 1, x.tick(1299));
        due.countsAre(x, 0, 0, 1, 0, 0, 0, 0, 0);
        due.is("tick(1300)", 1, x.tick(1300));
        due.countsAre(x, 0, 1, 1, 0, 0, 0, 0, 0);
    }

    private static void inOtherStatesAFlowDoesNothing() {
        LongTransfer x = answered(60, 0, 100, 1);
        x.flow(0, 100, 0);
        x.tick(500);
        due.is("receive(3)", 2, x.receive(3));
        due.is("wait while it is sending", 2, x.receive(2));
        x.tick(600);
        due.framesAre(x, 5);
        due.frameIs(x, 5, 2, 1, 2, 7, 600, 0);
        x.wait2(0);
        due.is("tick(5600)", 1, x.tick(5600));
        due.countsAre(x, 0, 0, 1, 0, 0, 0, 0, 0);

        LongTransfer y = answered(8, 0, 0, 1);
        y.flow(0, 0, 0);
        y.tick(500);
        y.receive(3);
        y.tick(500);
        due.is("wait when it is done", 3, y.receive(2));
        due.countsAre(y, 0, 0, 0, 0, 0, 0, 0, 0);
    }
}
