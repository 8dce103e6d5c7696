/** Edges of the term TIME, and promise 8. */
final class TimeEdges {
    private TimeEdges() {
    }

    static void run(Sentences doc) {
        fromOneToTheNext(doc);
        smallAndLargeSteps(doc);
        everyTick(doc);
        sendersByMessages(doc);
        sendersThatGiveUpGoByMessages(doc);
        receiversInTheirOrder(doc);
        sendersBeforeReceivers(doc);
        answersBeforeEndings(doc);
        asOften(doc);
        timeGoesOn(doc);
        sentAtTheTimeBefore(doc);
        sentBeforeWhatIsDue(doc);
        endedMeanwhile(doc);
        timesOutside(doc);
        refusedTimesChangeNothing(doc);
    }

    private static void fromOneToTheNext(Sentences doc) {
        doc.quote("TIME goes on from what is to happen to what is to happen;");
        Run x = Run.sent(doc, 100, 27, 27);
        x.flow(0, 4, 0, 1);
        x.receive(1, 1);
        x.flow(0, 3, 0, 1);
        x.receive(2, 1);
        x.receiveAll(3, 4, 2);
        x.tick(7, 0);
        x.frames(9);
        x.tick(8, 0);
        x.frames(10);
        int[][] messageSequenceTime = {{1, 1, 0}, {2, 1, 0}, {2, 2, 3}, {1, 2, 4}, {2, 3, 6}, {1, 3, 8}};
        for (int k = 0; k < 6; k++) {
            int[] want = messageSequenceTime[k];
            x.frameIs(5 + k, 2, want[0], want[1], 7, want[2], 0);
        }
    }

    /** The same frames at the same times, whether time goes on by one tick, by some, or all at once. */
    private static void smallAndLargeSteps(Sentences doc) {
        int[] steps = {13, 127, 254, 500, 1000, 2000};
        for (int step : steps) {
            Run x = Run.sent(doc, 100, 34, 20, 20, 20);
            x.flow(3, 127, 0, 1);
            x.receive(1, 1);
            x.receive(5, 2);
            x.flow(0, 0, 1, 1);
            x.receive(2, 1);
            int t = 0;
            while (t < 2000) {
                t = Math.min(2000, t + step);
                x.tick(t, t < 1000 ? 0 : endingsIn(t - step, t));
            }
            x.frames(13);
            int[][] kindMessageTime = {{2, 1, 0}, {2, 1, 127}, {2, 1, 254}, {3, 2, 500}, {3, 2, 1000}, {3, 2, 1500},
                {3, 2, 2000}};
            for (int k = 0; k < 7; k++) {
                x.frame(7 + k, 0, kindMessageTime[k][0]);
                x.frame(7 + k, 1, kindMessageTime[k][1]);
                x.frame(7 + k, 4, kindMessageTime[k][2]);
            }
            x.counts(0, 4, 1, 0, 0, 0, 0, 0);
        }
    }

    /** In that run the senders 2, 3 and 4 and receiver 1 end at 1000, sender 1 at 1254. */
    private static int endingsIn(int after, int to) {
        return (after < 1000 && to >= 1000 ? 4 : 0) + (after < 1254 && to >= 1254 ? 1 : 0);
    }

    /** Four senders in turn, each every fourth tick: something happens at each of the 5001 times of one call. */
    private static void everyTick(Sentences doc) {
        Run x = Run.sent(doc, 10000, 10000, 10000, 10000, 10000);
        x.flow(0, 4, 0, 1);
        x.receiveAll(1, 4, 1);
        for (int m = 1; m <= 4; m++) {
            x.tick(m - 1, 0);
            x.receive(4 + m, 2);
        }
        x.frames(11);
        x.tick(5003, 4);
        x.frames(11 + 5001);
        int[] times = {0, 1, 2, 3, 4, 5, 2500, 5001, 5002, 5003};
        for (int t : times) {
            x.frame(9 + t, 4, t);
            x.frame(9 + t, 1, 1 + t % 4);
        }
    }

    private static void sendersByMessages(Sentences doc) {
        doc.quote("at one time first the SENDERS, by messages,");
        Run x = Run.sent(doc, 100, 20, 20, 20, 20, 20);
        for (int m = 4; m >= 1; m--) {
            x.receive(m, 1);
        }
        for (int i = 6; i <= 9; i++) {
            x.receive(i, 2);
        }
        x.receive(5, 1);
        x.receive(10, 2);
        x.tick(0, 0);
        x.frames(20);
        for (int k = 0; k < 10; k++) {
            x.frameIs(11 + k, 2, 1 + k / 2, 1 + k % 2);
        }
    }

    /** A sender that gives up does not keep those behind it from their turn at that time. */
    private static void sendersThatGiveUpGoByMessages(Sentences doc) {
        Run x = Run.sent(doc, 100, 20, 40, 20);
        x.tick(900, 0);
        x.flow(0, 100, 0, 1);
        x.receive(2, 1);
        x.receive(4, 2);
        x.tick(999, 0);
        x.frames(5);
        x.tick(1000, 2);
        x.frames(6);
        x.frameIs(6, 2, 2, 2, 7, 1000);
        x.ended(1, 2);
    }

    private static void receiversInTheirOrder(Sentences doc) {
        doc.quote("then the RECEIVERS (1, 2, 3, 0;");
        Run x = Run.sent(doc, 100, 20, 20, 20, 20);
        x.flow(0, 0, 1, 1);
        int[] order = {4, 2, 3, 1};
        for (int m : order) {
            x.receive(m, 1);
        }
        x.tick(500, 0);
        x.frames(12);
        for (int m = 1; m <= 4; m++) {
            x.frameIs(8 + m, 3, m, 1, 0, 500);
        }
    }

    private static void sendersBeforeReceivers(Sentences doc) {
        for (int later = 0; later <= 1; later++) {
            Run x = Run.sent(doc, 100, 20, 20);
            x.flow(0, 100, 0, 1);
            x.receive(2, 1);
            x.flow(0, 0, 1, 1);
            x.receive(1, 1);
            x.tick(400 + later, 0);
            x.receive(3, 2);
            x.tick(600, 0);
            x.frames(7);
            x.frameIs(5, 2, 2, 1, 7, 400 + later);
            x.frameIs(6 + later, 2, 2, 2, 7, 500 + later);
            x.frameIs(7 - later, 3, 1, 1, 0, 500);
        }
    }

    /** The answer at 500 and at 1000 begins the time anew before it could be over. */
    private static void answersBeforeEndings(Sentences doc) {
        doc.quote("to ANSWER comes before to be ENDED),");
        Run x = Run.sent(doc, 100, 20);
        x.flow(0, 0, 1, 1);
        x.receive(1, 1);
        x.tick(1000, 1);
        x.frames(4);
        x.counts(0, 1, 0, 0, 0, 0, 0, 0);
        x.flow(0, 0, 0, 1);
        x.tick(1500, 0);
        x.frames(5);
        x.tick(2499, 0);
        x.tick(2500, 1);
        x.counts(0, 1, 1, 0, 0, 0, 0, 0);
    }

    private static void asOften(Sentences doc) {
        doc.quote("each as often as it is so at that time.");
        Run x = Run.sent(doc, 10000, 6 + 7 * 400, 20, 13);
        x.receiveAll(1, 3, 1);
        x.receiveAll(4, 6, 2);
        x.tick(0, 0);
        x.frames(6 + 403);
        x.frame(7, 1, 1);
        x.frame(6 + 400, 1, 1);
        x.frame(6 + 401, 1, 2);
        x.frame(6 + 402, 1, 2);
        x.frame(6 + 403, 1, 3);

        Run y = Run.sent(doc, 100, 27, 27);
        y.flow(0, 1, 0, 1);
        y.receive(1, 1);
        y.flow(0, 0, 0, 1);
        y.receive(2, 1);
        y.receiveAll(3, 4, 2);
        y.tick(0, 0);
        y.frames(8);
        y.frame(5, 1, 1);
        y.frame(6, 1, 2);
        y.frame(8, 1, 2);
        y.tick(1, 0);
        y.frames(9);
    }

    private static void timeGoesOn(Sentences doc) {
        doc.quote("Time goes on to t:");
        Run x = new Run(doc, 100);
        x.tick(0, 0);
        x.tick(4, 0);
        x.tick(3, -2);
        x.tick(4, 0);
        x.sends(1);
        x.tick(5, 0);
        x.frame(1, 4, 4);
        x.send(1, 2);
        x.tick(5, 0);
        x.frame(2, 4, 5);
        x.tick(4, -2);
        for (int k = 1; k <= 400; k++) {
            x.tick(5 + 5000L * k, 0);
        }
        x.send(1, 3);
        x.tick(2000006, 0);
        x.frame(3, 4, 2000005);
    }

    private static void sentAtTheTimeBefore(Sentences doc) {
        doc.quote("all messages that were made and not sent yet are sent at once, at the time before;");
        Run x = new Run(doc, 100);
        x.tick(10, 0);
        x.sends(1, 8, 20);
        x.frames(0);
        x.tick(20, 0);
        x.frames(3);
        x.frameIs(1, 0, 1, 0, 1, 10);
        x.frameIs(2, 1, 2, 8, 6, 10);
        x.frameIs(3, 1, 3, 20, 6, 10);
        x.send(2, 4);
        x.tick(20, 0);
        x.frames(4);
        x.frame(4, 4, 20);
        x.tick(21, 0);
        x.frames(4);
        x.tick(1009, 0);
        x.tick(1010, 2);
        x.send(8, 5);
        x.tick(2010, 1);
        x.frame(5, 4, 1010);
        x.ended(1, 3);
    }

    /** What is due at the time before comes behind the messages that are sent then. */
    private static void sentBeforeWhatIsDue(Sentences doc) {
        Run x = Run.sent(doc, 100, 20);
        x.receive(1, 1);
        x.receive(2, 2);
        x.send(7, 2);
        x.send(9, 3);
        x.tick(0, 0);
        x.frames(6);
        x.frameIs(3, 0, 2);
        x.frameIs(4, 1, 3);
        x.frameIs(5, 2, 1, 1);
        x.frameIs(6, 2, 1, 2);
    }

    private static void endedMeanwhile(Sentences doc) {
        doc.quote("how many sides ENDED meanwhile.");
        Run x = Run.sent(doc, 100, 20, 20, 101);
        x.receive(3, 3);
        x.receive(4, 4);
        x.tick(0, 0);
        x.tick(10, 0);
        x.receive(1, 1);
        x.tick(999, 0);
        x.tick(1000, 2);
        x.tick(1009, 0);
        x.tick(1010, 1);
        x.tick(1011, 0);
        x.counts(0, 2, 1, 0, 2, 0, 0, 0);

        Run y = Run.sent(doc, 100, 20, 20, 20, 20);
        y.receiveAll(1, 4, 1);
        y.tick(5000, 8);
        y.tick(5000, 0);
        y.counts(0, 4, 4, 0, 0, 0, 0, 0);
    }

    private static void timesOutside(Sentences doc) {
        doc.quote("-2 t is less than the time at hand, or more than 5000 later.");
        Run x = new Run(doc, 100);
        long[] never = {-1, -2, 5001, 5002, 1L << 31, 1L << 32, (1L << 32) + 1, -(1L << 32), Long.MIN_VALUE,
            Long.MIN_VALUE + 1, Long.MAX_VALUE, Long.MAX_VALUE - 1};
        for (long t : never) {
            x.tick(t, -2);
        }
        x.tick(0, 0);
        x.tick(1, 0);
        x.tick(0, -2);
        x.tick(5002, -2);
        x.tick(5001, 0);
        x.tick(5000, -2);
        x.tick(5001, 0);
        x.tick(10002, -2);
        x.tick(10001, 0);
        x.tick(10000, -2);
        x.tick(15000, 0);
        x.tick(-1, -2);
        x.tick(Long.MIN_VALUE, -2);
        x.tick(Long.MAX_VALUE, -2);
        x.tick(15000 + (1L << 32), -2);
        x.tick(20001, -2);
        x.tick(20000, 0);
    }

    private static void refusedTimesChangeNothing(Sentences doc) {
        Run x = new Run(doc, 100);
        x.tick(10, 0);
        x.sends(20, 1);
        x.tick(9, -2);
        x.tick(5011, -2);
        x.frames(0);
        x.tick(10, 0);
        x.frames(2);
        x.receive(1, 1);
        x.receive(3, 2);
        x.tick(9, -2);
        x.tick(5011, -2);
        x.frames(3);
        x.counts(0, 0, 0, 0, 0, 0, 0, 0);
        x.tick(10, 0);
        x.frames(5);
        x.frame(5, 4, 10);
    }
}
