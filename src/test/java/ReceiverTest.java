/** Promises 5, 7, 8, 9, 10 and 11 as a receiver keeps them: frames that reach it, answers, and its times. */
final class ReceiverTest {
    private static final Due due = new Due("ReceiverTest");

    public static void main(String[] args) {
        aSingleFrameIsWhole();
        aLongMessageBecomesWhole();
        whatIsGotStaysUntilTheNextWhole();
        outsideOfWhatWasGot();
        wrongSequencesEndIt();
        sixteenLostFramesGoUnseen();
        aNewMessageEndsTheOld();
        consecutiveFramesOfOthersDoNothing();
        flowsAreRefused();
        theAnswersBlockIsCounted();
        anOverflowAnswerEndsIt();
        aWaitIsAnsweredAgain();
        aNewMessageTakesTheAnswerAway();
        itGivesUpAfterAThousandTicks();
        fourReceivers();
        countsOutsideAreRefused();
        due.finish();
    }

    private static LongTransfer started(int... lengths) {
        LongTransfer x = new LongTransfer(10000);
        for (int n : lengths) {
            x.send(n);
        }
        x.tick(0);
        return x;
    }

    private static void aSingleFrameIsWhole() {
        LongTransfer x = new LongTransfer(0);
        x.send(3);
        x.octet(1, 1, (byte) -7);
        x.tick(0);
        due.is("length()", 0, x.length());
        due.is("receive(1)", 2, x.receive(1));
        due.is("length()", 3, x.length());
        due.is("got(0)", 0, x.got(0));
        due.is("got(1)", -7, x.got(1));
        due.is("got(2)", 0, x.got(2));
        due.is("ended(0)", 1, x.ended(0));
        due.framesAre(x, 1);
    }

    private static void aLongMessageBecomesWhole() {
        LongTransfer x = new LongTransfer(10000);
        x.send(10000);
        for (int i = 0; i < 10000; i += 97) {
            x.octet(1, i, (byte) (i % 251));
        }
        x.tick(0);
        due.is("receive(1)", 1, x.receive(1));
        due.is("receive(2)", 2, x.receive(2));
        x.tick(0);
        due.framesAre(x, 1431);
        for (int i = 3; i <= 1430; i++) {
            due.is("receive(" + i + ")", 1, x.receive(i));
        }
        due.is("length()", 0, x.length());
        due.is("receive(1431)", 2, x.receive(1431));
        due.is("length()", 10000, x.length());
        for (int i = 0; i < 10000; i++) {
            due.is("got(" + i + ")", i % 97 == 0 ? (byte) (i % 251) : 0, x.got(i));
        }
        due.countsAre(x, 1, 0, 0, 0, 0, 0, 0, 0);
        due.is("tick(5000)", 0, x.tick(5000));
    }

    private static void whatIsGotStaysUntilTheNextWhole() {
        LongTransfer x = new LongTransfer(100);
        x.send(2);
        x.send(9);
        x.send(9);
        x.octet(1, 0, (byte) 1);
        x.octet(2, 8, (byte) 2);
        x.tick(0);
        x.receive(1);
        x.receive(2);
        due.is("length()", 2, x.length());
        x.receive(4);
        x.tick(0);
        due.is("length()", 2, x.length());
        due.is("got(0)", 1, x.got(0));
        due.is("receive(5)", 2, x.receive(5));
        due.is("length()", 9, x.length());
        due.is("got(8)", 2, x.got(8));
        x.receive(3);
        due.is("tick(2000)", 2, x.tick(2000));
        due.is("length()", 9, x.length());
        due.is("got(8)", 2, x.got(8));
        x.send(1);
        x.tick(2000);
        x.receive(7);
        due.is("length()", 1, x.length());
        due.gotThrows(x, 1);
        due.is("ended(0)", 3, x.ended(0));
    }

    private static void outsideOfWhatWasGot() {
        LongTransfer x = started(4);
        int[] all = {-1, 0, 3, 4, Integer.MIN_VALUE, Integer.MAX_VALUE};
        for (int i : all) {
            due.gotThrows(x, i);
        }
        x.receive(1);
        int[] outside = {-1, 4, 5, Integer.MIN_VALUE, Integer.MAX_VALUE};
        for (int i : outside) {
            due.gotThrows(x, i);
        }
        due.is("got(3)", 0, x.got(3));
    }

    private static void wrongSequencesEndIt() {
        LongTransfer x = started(40);
        x.receive(1);
        x.receive(2);
        x.tick(0);
        due.is("receive(3)", 1, x.receive(3));
        due.is("receive(5)", 3, x.receive(5));
        due.countsAre(x, 0, 0, 0, 1, 0, 0, 0, 0);
        due.is("receive(4)", 3, x.receive(4));
        due.is("receive(6)", 3, x.receive(6));
        due.countsAre(x, 0, 0, 0, 1, 0, 0, 0, 0);
        due.is("tick(5000)", 0, x.tick(5000));
    }

    private static void sixteenLostFramesGoUnseen() {
        LongTransfer x = new LongTransfer(1000);
        x.send(6 + 7 * 20);
        for (int i = 0; i < 146; i++) {
            x.octet(1, i, (byte) i);
        }
        x.send(6 + 7 * 20);
        x.tick(0);
        x.receive(1);
        x.receive(3);
        x.tick(0);
        due.is("receive(4)", 1, x.receive(4));
        for (int i = 5; i <= 20; i++) {
            due.is("lose(" + i + ")", true, x.lose(i));
        }
        due.is("receive(21)", 1, x.receive(21));
        due.is("receive(22)", 1, x.receive(22));
        due.is("receive(23)", 1, x.receive(23));
        due.is("ended(0)", 0, x.ended(0));
        due.is("ended(3)", 0, x.ended(3));
    }

    private static void aNewMessageEndsTheOld() {
        LongTransfer x = started(20, 20, 20, 20, 5, 20, 20);
        x.receive(1);
        x.receive(2);
        due.is("receive(5)", 2, x.receive(5));
        due.countsAre(x, 1, 0, 0, 0, 0, 0, 1, 0);
        due.is("receive(6)", 1, x.receive(6));
        due.countsAre(x, 1, 0, 0, 0, 0, 0, 2, 0);
        due.is("receive(7)", 1, x.receive(7));
        due.is("ended(6)", 2, x.ended(6));
        due.framesAre(x, 11);
        due.frameIs(x, 11, 3, 7, 0, 0, 0, 0);

        LongTransfer y = new LongTransfer(20);
        y.send(20);
        y.send(1);
        y.send(1);
        y.send(1);
        y.send(21);
        y.tick(0);
        y.receive(1);
        due.is("receive(5)", 3, y.receive(5));
        due.countsAre(y, 0, 0, 0, 0, 1, 0, 1, 0);
    }

    private static void consecutiveFramesOfOthersDoNothing() {
        LongTransfer x = started(40, 1, 1, 1, 20);
        x.receive(1);
        x.receive(6);
        x.tick(0);
        x.receive(7);
        due.framesAre(x, 11);
        x.receive(5);
        due.frameIs(x, 12, 3, 5, 0, 0, 0, 0);
        x.receive(12);
        x.tick(600);
        due.is("receive(8)", 1, x.receive(8));
        due.is("receive(10)", 1, x.receive(10));
        due.is("tick(999)", 0, x.tick(999));
        due.is("tick(1000)", 1, x.tick(1000));
        due.is("ended(2)", 1, x.ended(2));
        due.is("ended(3)", 0, x.ended(3));
        due.is("receive(9)", 3, x.receive(9));
        due.is("receive(13)", 3, x.receive(13));

        LongTransfer idle = started(40);
        idle.receive(1);
        idle.receive(2);
        idle.tick(2000);
        due.is("receive(3)", 3, idle.receive(3));
        due.is("ended(3)", 0, idle.ended(3));
    }

    private static void flowsAreRefused() {
        LongTransfer x = started(20);
        due.is("flow(7, 8, 0)", 1, x.flow(7, 8, 0));
        int[][] wrong = {{-1, 0, 0}, {256, 0, 0}, {0, -1, 0}, {0, 256, 0}, {0, 0, -1}, {0, 0, 3},
            {Integer.MIN_VALUE, 0, 0}, {0, Integer.MAX_VALUE, 0}, {0, 0, Integer.MAX_VALUE}};
        for (int[] w : wrong) {
            due.is("flow(" + w[0] + ", " + w[1] + ", " + w[2] + ")", -2, x.flow(w[0], w[1], w[2]));
        }
        x.receive(1);
        due.frameIs(x, 2, 3, 1, 0, 7, 0, 8);
        due.is("flow(0, 0, 2)", 1, x.flow(0, 0, 2));
        due.is("flow(255, 255, 0)", 1, x.flow(255, 255, 0));
        due.is("flow(255, 255, 1)", 1, x.flow(255, 255, 1));
    }

    /** The block of the answer counts, not one that was set since. */
    private static void theAnswersBlockIsCounted() {
        LongTransfer x = started(100);
        x.flow(2, 0, 0);
        x.receive(1);
        x.flow(1, 3, 0);
        x.receive(2);
        x.tick(0);
        due.is("receive(3)", 1, x.receive(3));
        due.framesAre(x, 4);
        due.is("receive(4)", 1, x.receive(4));
        due.framesAre(x, 5);
        due.frameIs(x, 5, 3, 1, 0, 1, 0, 3);
        x.receive(5);
        x.tick(0);
        x.flow(0, 0, 0);
        due.is("receive(6)", 1, x.receive(6));
        due.frameIs(x, 7, 3, 1, 0, 0, 0, 0);
        x.receive(7);
        x.tick(0);
        x.flow(1, 0, 0);
        int last = x.frame(0, 0);
        for (int i = 8; i < last; i++) {
            due.is("receive(" + i + ")", 1, x.receive(i));
        }
        due.is("receive(" + last + ")", 2, x.receive(last));
        due.framesAre(x, last);
    }

    private static void anOverflowAnswerEndsIt() {
        LongTransfer x = started(60);
        x.flow(1, 0, 0);
        x.receive(1);
        x.receive(2);
        x.tick(0);
        x.flow(6, 7, 2);
        due.is("receive(3)", 3, x.receive(3));
        due.frameIs(x, 4, 3, 1, 2, 6, 0, 7);
        due.countsAre(x, 0, 0, 0, 0, 1, 0, 0, 0);
        due.is("receive(4)", 4, x.receive(4));
        due.is("tick(5000)", 0, x.tick(5000));
    }

    private static void aWaitIsAnsweredAgain() {
        LongTransfer x = started(20);
        x.flow(1, 2, 1);
        due.is("receive(1)", 1, x.receive(1));
        due.is("tick(499)", 0, x.tick(499));
        due.framesAre(x, 2);
        due.is("tick(500)", 0, x.tick(500));
        due.framesAre(x, 3);
        due.frameIs(x, 3, 3, 1, 1, 1, 500, 2);
        due.is("tick(4999)", 1, x.tick(4999));
        due.countsAre(x, 0, 1, 0, 0, 0, 0, 0, 0);
        due.framesAre(x, 11);
        x.flow(9, 8, 0);
        due.is("tick(5999)", 0, x.tick(5999));
        due.framesAre(x, 12);
        due.frameIs(x, 12, 3, 1, 0, 9, 5000, 8);
        due.is("tick(6000)", 1, x.tick(6000));
        due.countsAre(x, 0, 1, 1, 0, 0, 0, 0, 0);
        due.framesAre(x, 12);

        LongTransfer y = started(20);
        y.flow(0, 0, 1);
        y.receive(1);
        y.flow(3, 4, 2);
        due.is("tick(500)", 1, y.tick(500));
        due.frameIs(y, 3, 3, 1, 2, 3, 500, 4);
        due.countsAre(y, 0, 0, 0, 0, 1, 0, 0, 0);
    }

    private static void aNewMessageTakesTheAnswerAway() {
        LongTransfer x = started(20, 1, 1, 1, 20, 1, 1, 1, 1);
        x.flow(0, 0, 1);
        x.receive(1);
        x.tick(100);
        x.receive(5);
        due.framesAre(x, 11);
        x.tick(599);
        due.framesAre(x, 11);
        x.tick(600);
        due.frameIs(x, 12, 3, 5, 1, 0, 600, 0);
        due.is("receive(9)", 2, x.receive(9));
        due.is("tick(900)", 0, x.tick(900));
        due.framesAre(x, 12);
    }

    private static void itGivesUpAfterAThousandTicks() {
        LongTransfer x = started(40);
        x.tick(10);
        x.receive(1);
        x.receive(2);
        x.tick(900);
        due.is("receive(3)", 1, x.receive(3));
        due.is("tick(1899)", 0, x.tick(1899));
        due.is("receive(4)", 1, x.receive(4));
        due.is("tick(2898)", 0, x.tick(2898));
        due.is("tick(2899)", 1, x.tick(2899));
        due.countsAre(x, 0, 0, 1, 0, 0, 0, 0, 0);
        due.is("receive(5)", 3, x.receive(5));
        due.is("tick(2899)", 0, x.tick(2899));
    }

    private static void fourReceivers() {
        LongTransfer x = started(20, 20, 20, 20, 20);
        for (int i = 1; i <= 4; i++) {
            due.is("receive(" + i + ")", 1, x.receive(i));
        }
        due.is("ended(6)", 0, x.ended(6));
        due.is("receive(5)", 1, x.receive(5));
        due.is("ended(6)", 1, x.ended(6));
        for (int m = 2; m <= 4; m++) {
            due.is("receive(" + (5 + m) + ")", 2, x.receive(5 + m));
        }
        x.tick(0);
        for (int i = 11; i <= 16; i++) {
            due.is("frame(" + i + ", 1)", 2 + (i - 11) / 2, x.frame(i, 1));
            due.is("receive(" + i + ")", i % 2 == 1 ? 1 : 2, x.receive(i));
        }
        due.is("ended(0)", 3, x.ended(0));
    }

    private static void countsOutsideAreRefused() {
        LongTransfer x = new LongTransfer(0);
        int[] outside = {-1, 8, Integer.MIN_VALUE, Integer.MAX_VALUE};
        for (int what : outside) {
            due.is("ended(" + what + ")", -2, x.ended(what));
        }
    }
}
