/** Edges of the term THE SENDER, and promise 12. */
final class SenderEdges {
    private SenderEdges() {
    }

    static void run(Sentences doc) {
        idle(doc);
        shortMessages(doc);
        longMessages(doc);
        blocks(doc);
        aBlockOfEachFlow(doc);
        separations(doc);
        dueAtTheTimeAtHand(doc);
        waits(doc);
        waitsAddUp(doc);
        aWaitBeginsItsTime(doc);
        overflow(doc);
        flowsWhileSending(doc);
        flowsWhenDone(doc);
        flowsWhenEnded(doc);
        theLastOfTheMessage(doc);
        theLastOfTheBlock(doc);
        separationTicksLater(doc);
        patienceWithFirst(doc);
        patienceWithABlock(doc);
        patienceWithAWait(doc);
        theLastMoment(doc);
        theLimit(doc);
        limitsOutside(doc);
    }

    /** Message 1 sent at time 0 and its first frame received: the flow 2, as set here, is on its way. */
    private static Run answered(Sentences doc, int length, int block, int separation, int kind) {
        Run x = Run.sent(doc, 10000, length);
        x.flow(block, separation, kind, 1);
        x.receive(1, 1);
        return x;
    }

    /** Message 1 sends since time 500 by the flow 3; the flow 2, a wait, is on its way and shows its state. */
    private static Run probed(Sentences doc, int length, int block, int separation) {
        Run x = answered(doc, length, block, separation, 1);
        x.flow(block, separation, 0, 1);
        x.tick(500, 0);
        x.receive(3, 2);
        return x;
    }

    private static void idle(Sentences doc) {
        doc.quote("THE SENDER, 0 IDLE at first:");
        Run x = new Run(doc, 100);
        x.tick(100, 0);
        x.send(8, 1);
        x.frames(0);
        x.counts(0, 0, 0, 0, 0, 0, 0, 0);
        x.tick(1099, 0);
        x.frames(1);
        x.tick(1100, 1);
    }

    private static void shortMessages(Sentences doc) {
        doc.quote("when a message of at most 7 octets is sent, a SINGLE frame is made, and it is 3 DONE;");
        Run x = Run.sent(doc, 100, 1, 6, 7);
        x.frames(3);
        for (int m = 1; m <= 3; m++) {
            x.frameIs(m, 0, m);
        }
        x.tick(5000, 0);
        x.frames(3);
    }

    private static void longMessages(Sentences doc) {
        doc.quote("otherwise a FIRST frame is made, and it is 1 WAITING.");
        Run x = Run.sent(doc, 100, 7, 8, 9);
        x.frame(1, 0, 0);
        x.frameIs(2, 1, 2, 8);
        x.frameIs(3, 1, 3, 9);
        x.flow(0, 0, 1, 1);
        x.receive(2, 1);
        x.receive(4, 1);
        x.frames(4);
        x.tick(999, 0);
        x.tick(1000, 2);
        x.ended(1, 2);
    }

    private static void blocks(Sentences doc) {
        doc.quote("A FLOW that reaches it while it is WAITING: kind 0: it is 2 SENDING, with that BLOCK (0: without end)");
        int[] blocks = {1, 2, 3, 15, 16, 17, 254, 255};
        for (int block : blocks) {
            blockOf(doc, block, block - 1);
            blockOf(doc, block, block);
            blockOf(doc, block, block + 1);
            blockOf(doc, block, 2 * block + 1);
        }
        blockOf(doc, 0, 1);
        blockOf(doc, 0, 256);
        blockOf(doc, 0, 257);
        Run x = answered(doc, 10000, 0, 0, 0);
        x.receive(2, 2);
        x.tick(0, 0);
        x.frames(2 + 1429);
        x.tick(1000, 1);
        x.counts(0, 0, 1, 0, 0, 0, 0, 0);
    }

    /** A message of so many consecutive frames: those of one block are made, and it waits if there are more. */
    private static void blockOf(Sentences doc, int block, int consecutives) {
        if (consecutives == 0) {
            return;
        }
        boolean waits = block != 0 && consecutives > block;
        Run x = answered(doc, 6 + 7 * consecutives, block, 0, 0);
        x.receive(2, 2);
        x.tick(0, 0);
        x.frames(2 + (waits ? block : consecutives));
        x.tick(999, 0);
        x.tick(1000, waits ? 2 : 1);
        x.counts(0, waits ? 1 : 0, 1, 0, 0, 0, 0, 0);
    }

    private static void aBlockOfEachFlow(Sentences doc) {
        Run x = answered(doc, 6 + 7 * 9, 2, 0, 0);
        x.receive(2, 2);
        x.tick(0, 0);
        x.frames(4);
        x.flow(3, 0, 0, 1);
        x.receiveAll(3, 4, 1);
        x.receive(5, 2);
        x.tick(0, 0);
        x.frames(8);
        x.flow(0, 0, 0, 1);
        x.receiveAll(6, 8, 1);
        x.receive(9, 2);
        x.tick(0, 0);
        x.frames(13);
        x.frameIs(13, 2, 1, 9, 7);
    }

    private static void separations(Sentences doc) {
        doc.quote("and SEPARATION in ticks (0 .. 127 as it is; 241 .. 249 are 1; others 127);");
        int[][] ticksOf = {{0, 0}, {1, 1}, {2, 2}, {125, 125}, {126, 126}, {127, 127}, {128, 127}, {129, 127}, {239, 127},
            {240, 127}, {241, 1}, {242, 1}, {245, 1}, {248, 1}, {249, 1}, {250, 127}, {251, 127}, {254, 127}, {255, 127}};
        for (int[] pair : ticksOf) {
            int ticks = pair[1];
            Run x = answered(doc, 6 + 7 * 3, 0, pair[0], 0);
            x.tick(5, 0);
            x.receive(2, 2);
            x.tick(5, 0);
            x.frames(ticks == 0 ? 5 : 3);
            x.tick(5 + Math.max(0, ticks - 1), 0);
            x.frames(ticks == 0 ? 5 : 3);
            x.tick(5 + ticks, 0);
            x.frames(ticks == 0 ? 5 : 4);
            x.tick(5 + 3 * ticks, 0);
            x.frames(5);
            x.frame(3, 4, 5);
            x.frame(4, 4, 5 + ticks);
            x.frame(5, 4, 5 + 2 * ticks);
        }
    }

    private static void dueAtTheTimeAtHand(Sentences doc) {
        doc.quote("the next frame is DUE at the time at hand.");
        Run x = answered(doc, 40, 1, 100, 0);
        x.tick(50, 0);
        x.receive(2, 2);
        x.frames(2);
        x.tick(50, 0);
        x.frames(3);
        x.frame(3, 4, 50);
        x.receive(3, 1);
        x.receive(4, 2);
        x.tick(51, 0);
        x.frames(5);
        x.frame(5, 4, 50);
        x.tick(149, 0);
        x.frames(5);
    }

    /** Waits by the limit: as many as it says are taken, with one more the sender is ended. */
    private static void waits(Sentences doc) {
        doc.quote("Kind 1: one WAIT more; with more than the limit says it is 4 ENDED (5);");
        int[] limits = {0, 1, 2, 3, 4, 99, 100};
        for (int limit : limits) {
            Run x = new Run(doc, 100);
            x.wait2(limit, 3);
            takesWaits(x, limit);
        }
        takesWaits(new Run(doc, 100), 3);
    }

    private static void takesWaits(Run x, int limit) {
        x.send(20, 1);
        x.tick(0, 0);
        x.flow(0, 0, 1, 1);
        x.receive(1, 1);
        for (int k = 1; k <= limit; k++) {
            x.receive(1 + k, 1);
            x.tick(500L * k, 0);
        }
        x.ended(5, 0);
        x.receive(2 + limit, 4);
        x.counts(0, 0, 0, 0, 0, 1, 0, 0);
        x.tick(500L * limit + 1000, 0);
        x.receive(3 + limit, 4);
        x.ended(5, 1);
    }

    /** A flow of kind 0 between them does not take the waits away, and each sender has its own. */
    private static void waitsAddUp(Sentences doc) {
        Run x = new Run(doc, 100);
        x.wait2(2, 3);
        x.sends(40, 40);
        x.tick(0, 0);
        x.flow(1, 0, 1, 1);
        x.receiveAll(1, 2, 1);
        x.tick(500, 0);
        x.receiveAll(3, 6, 1);
        x.flow(1, 0, 0, 1);
        x.tick(1000, 0);
        x.receive(7, 2);
        x.tick(1000, 0);
        x.flow(1, 0, 1, 1);
        x.receive(9, 1);
        x.receive(10, 4);
        x.receive(8, 2);
        x.counts(0, 0, 0, 0, 0, 1, 0, 0);
    }

    private static void aWaitBeginsItsTime(Sentences doc) {
        doc.quote("its time begins anew.");
        Run x = answered(doc, 20, 0, 0, 1);
        x.tick(999, 0);
        x.receive(2, 1);
        x.tick(1998, 0);
        x.receive(3, 1);
        x.tick(2997, 0);
        x.ended(1, 0);
        x.tick(2998, 1);
        x.ended(1, 1);
    }

    private static void overflow(Sentences doc) {
        doc.quote("Kind 2: ENDED (4).");
        Run x = Run.sent(doc, 100, 20);
        x.flow(3, 4, 2, 1);
        x.receive(1, 3);
        x.ended(4, 1);
        x.receive(2, 4);
        x.counts(0, 0, 0, 0, 2, 0, 0, 0);
        x.tick(5000, 0);
        x.frames(2);
    }

    private static void flowsWhileSending(Sentences doc) {
        doc.quote("In other states a FLOW does nothing.");
        Run x = probed(doc, 40, 1, 0);
        x.wait2(1, 3);
        x.receive(2, 2);
        x.tick(500, 0);
        x.frames(4);
        x.flow(1, 0, 1, 1);
        x.receive(4, 1);
        x.receive(5, 1);
        x.tick(1000, 0);
        x.receive(6, 4);

        Run y = probed(doc, 40, 0, 100);
        y.tick(599, 0);
        y.frames(4);
        y.receive(2, 2);
        y.tick(600, 0);
        y.frames(5);
        y.tick(699, 0);
        y.frames(5);
        y.tick(700, 0);
        y.frames(6);
    }

    private static void flowsWhenDone(Sentences doc) {
        Run x = probed(doc, 8, 0, 0);
        x.wait2(0, 3);
        x.tick(500, 0);
        x.frames(4);
        x.receive(2, 3);
        x.tick(1499, 0);
        x.tick(1500, 1);
        x.counts(0, 0, 1, 0, 0, 0, 0, 0);
    }

    private static void flowsWhenEnded(Sentences doc) {
        for (int kind = 0; kind <= 2; kind++) {
            Run x = Run.sent(doc, 100, 20);
            x.wait2(0, 3);
            x.tick(1000, 1);
            x.flow(0, 0, kind, 1);
            x.receive(1, kind == 2 ? 3 : 1);
            x.receive(2, 4);
            x.counts(0, 1, 0, 0, kind == 2 ? 1 : 0, 0, 0, 0);
            x.tick(1000, 0);
            x.frames(2);
        }
    }

    private static void theLastOfTheMessage(Sentences doc) {
        doc.quote("While it is SENDING, when a frame is DUE, a CONSECUTIVE one is made; "
            + "if that was the last of the message, it is DONE;");
        int[][] lengthBlockState = {{26, 0, 3}, {27, 0, 3}, {28, 0, 2}, {26, 3, 3}, {27, 3, 3}, {28, 3, 1},
            {27, 2, 1}, {27, 4, 3}, {28, 4, 2}, {20, 3, 3}};
        for (int[] want : lengthBlockState) {
            Run x = probed(doc, want[0], want[1], 10);
            x.frames(3);
            x.tick(500, 0);
            x.frames(4);
            x.frameIs(4, 2, 1, 1, 7);
            x.tick(509, 0);
            x.frames(4);
            x.tick(510, 0);
            x.frames(5);
            x.tick(520, 0);
            x.receive(2, want[2]);
        }
    }

    private static void theLastOfTheBlock(Sentences doc) {
        doc.quote("otherwise, if it was the last of the BLOCK, it is WAITING;");
        int[][] blockState = {{1, 1}, {2, 1}, {3, 2}, {0, 2}};
        for (int[] want : blockState) {
            Run x = probed(doc, 60, want[0], 10);
            x.tick(519, 0);
            x.frames(want[0] == 1 ? 4 : 5);
            x.receive(2, want[1]);
            x.tick(520, 0);
            x.frames(want[0] == 1 ? 4 : want[0] == 2 ? 5 : 6);
        }
    }

    private static void separationTicksLater(Sentences doc) {
        doc.quote("otherwise the next one is DUE SEPARATION ticks later.");
        Run x = answered(doc, 60, 0, 7, 0);
        x.tick(3, 0);
        x.receive(2, 2);
        for (int k = 0; k < 8; k++) {
            x.tick(3 + 7 * k, 0);
            x.frames(3 + k);
            x.frame(3 + k, 4, 3 + 7 * k);
            x.tick(4 + 7 * k, 0);
            x.tick(9 + 7 * k, 0);
            x.frames(3 + k);
        }
        x.tick(59, 0);
        x.frames(10);

        Run y = answered(doc, 60, 0, 127, 0);
        y.receive(2, 2);
        y.tick(5000, 1);
        y.frames(10);
        y.frame(10, 4, 7 * 127);
    }

    private static void patienceWithFirst(Sentences doc) {
        doc.quote("When it has been WAITING for 1000 ticks since its time began "
            + "(with FIRST, with the last of a BLOCK, with a FLOW of kind 1), it is ENDED (1).");
        Run x = new Run(doc, 100);
        x.tick(3, 0);
        x.send(8, 1);
        x.tick(1002, 0);
        x.ended(1, 0);
        x.tick(1003, 1);
        x.ended(1, 1);
        x.tick(1004, 0);
        x.tick(2003, 0);
        x.counts(0, 1, 0, 0, 0, 0, 0, 0);

        Run y = new Run(doc, 100);
        y.send(8, 1);
        y.tick(999, 0);
        y.tick(1001, 1);
    }

    private static void patienceWithABlock(Sentences doc) {
        Run x = answered(doc, 60, 2, 100, 0);
        x.tick(200, 0);
        x.receive(2, 2);
        x.tick(300, 0);
        x.frames(4);
        x.receive(3, 1);
        x.tick(1299, 0);
        x.ended(1, 0);
        x.tick(1300, 2);
        x.counts(0, 1, 1, 0, 0, 0, 0, 0);

        Run y = answered(doc, 60, 2, 100, 0);
        y.receive(2, 2);
        y.tick(1099, 1);
        y.ended(1, 0);
        y.tick(1101, 1);
        y.ended(1, 1);
    }

    private static void patienceWithAWait(Sentences doc) {
        Run x = answered(doc, 20, 0, 0, 1);
        x.tick(700, 0);
        x.receive(2, 1);
        x.tick(1699, 0);
        x.tick(1700, 1);
        x.counts(0, 1, 0, 0, 0, 0, 0, 0);
    }

    private static void theLastMoment(Sentences doc) {
        for (int late = 0; late <= 1; late++) {
            Run x = answered(doc, 8, 0, 0, 0);
            x.tick(998, 0);
            x.tick(999 + late, 2 * late);
            x.receive(2, late == 0 ? 2 : 4);
            x.tick(999 + late, 0);
            x.frames(3 - late);
        }
    }

    private static void theLimit(Sentences doc) {
        doc.quote("How many WAITS a SENDER takes (0 .. 100; at first 3): how many it was before.");
        Run x = new Run(doc, 100);
        x.wait2(0, 3);
        x.wait2(1, 0);
        x.wait2(99, 1);
        x.wait2(100, 99);
        x.wait2(100, 100);
        x.wait2(2, 100);
        x.send(20, 1);
        x.tick(0, 0);
        x.flow(0, 0, 1, 1);
        x.receive(1, 1);
        x.tick(1000, 1);
        limitAtTheFlow(doc);
    }

    /** The limit is the one that holds when the flow comes. */
    private static void limitAtTheFlow(Sentences doc) {
        Run x = answered(doc, 20, 0, 0, 1);
        x.tick(500, 0);
        x.receive(2, 1);
        x.wait2(1, 3);
        x.receive(3, 4);

        Run y = answered(doc, 20, 0, 0, 1);
        y.tick(500, 0);
        y.wait2(1, 3);
        y.receive(2, 1);
        y.wait2(2, 1);
        y.receive(3, 1);
        y.wait2(1, 2);
        y.tick(1000, 0);
        y.wait2(3, 1);
        y.receive(4, 1);
        y.tick(1500, 0);
        y.receive(5, 4);
    }

    private static void limitsOutside(Sentences doc) {
        doc.quote("-2 another number.");
        Run x = new Run(doc, 100);
        int[] outside = {-2, -1, 101, 102, Integer.MIN_VALUE, Integer.MAX_VALUE};
        for (int n : outside) {
            x.wait2(n, -2);
        }
        x.wait2(100, 3);
        for (int n : outside) {
            x.wait2(n, -2);
        }
        x.wait2(0, 100);
        x.wait2(-1, -2);
        x.wait2(3, 0);
    }
}
