/** Edges of the term TO ANSWER, and promise 7. */
final class AnswerEdges {
    private AnswerEdges() {
    }

    static void run(Sentences doc) {
        atFirst(doc);
        setLast(doc);
        byOverflow(doc);
        byOverflowAgain(doc);
        againAfterAWait(doc);
        againAndAgain(doc);
        notWhenDone(doc);
        notAfterANewMessage(doc);
        onlyOnceByGoOn(doc);
        patienceAfterFirst(doc);
        patienceAfterConsecutives(doc);
        patienceAfterAnAnswer(doc);
        noPatienceIsNeeded(doc);
        theLastMoment(doc);
        fromNowOn(doc);
        refusedFlows(doc);
    }

    private static void atFirst(Sentences doc) {
        doc.quote("TO ANSWER: a FLOW is made of the FLOW KIND, BLOCK and SEPARATION that were set last (at first 0, 0, 0).");
        Run x = Run.sent(doc, 100, 20, 20, 20);
        x.receive(1, 1);
        x.frameIs(4, 3, 1, 0, 0, 0, 0);
        x.flow(1, 2, 0, 1);
        x.flow(3, 4, 0, 1);
        x.receive(2, 1);
        x.frameIs(5, 3, 2, 0, 3, 0, 4);
        x.receive(3, 1);
        x.frameIs(6, 3, 3, 0, 3, 0, 4);
        x.frames(6);
    }

    private static void setLast(Sentences doc) {
        Run x = Run.sent(doc, 100, 40);
        x.flow(1, 2, 0, 1);
        x.receive(1, 1);
        x.flow(3, 4, 1, 1);
        x.receive(2, 2);
        x.tick(9, 0);
        x.receive(3, 1);
        x.frameIs(4, 3, 1, 1, 3, 9, 4);
        x.flow(0, 255, 0, 1);
        x.tick(509, 0);
        x.frameIs(5, 3, 1, 0, 0, 509, 255);
        x.frames(5);
    }

    private static void byOverflow(Sentences doc) {
        doc.quote("By kind 2 it is ENDED (4).");
        Run x = Run.sent(doc, 100, 20, 40);
        x.flow(1, 0, 0, 1);
        x.receive(2, 1);
        x.receive(3, 2);
        x.tick(0, 0);
        x.flow(8, 9, 2, 1);
        x.receive(4, 3);
        x.frameIs(5, 3, 2, 2, 8, 0, 9);
        x.counts(0, 0, 0, 0, 1, 0, 0, 0);
        x.receive(1, 3);
        x.frameIs(6, 3, 1, 2, 8, 0, 9);
        x.counts(0, 0, 0, 0, 2, 0, 0, 0);
        x.tick(999, 0);
        x.tick(1000, 2);
        x.frames(6);
        x.counts(0, 2, 0, 0, 2, 0, 0, 0);
    }

    private static void byOverflowAgain(Sentences doc) {
        Run x = Run.sent(doc, 100, 20);
        x.flow(0, 0, 1, 1);
        x.receive(1, 1);
        x.flow(8, 9, 2, 1);
        x.tick(499, 0);
        x.tick(500, 1);
        x.frameIs(3, 3, 1, 2, 8, 500, 9);
        x.counts(0, 0, 0, 0, 1, 0, 0, 0);
        x.tick(5000, 1);
        x.frames(3);
    }

    private static void againAfterAWait(Sentences doc) {
        doc.quote("By kind 1 it ANSWERS again 500 ticks later, if it is still RECEIVING and no frame reached it since.");
        Run x = Run.sent(doc, 100, 20);
        x.tick(3, 0);
        x.flow(5, 6, 1, 1);
        x.receive(1, 1);
        x.frames(2);
        x.tick(502, 0);
        x.frames(2);
        x.tick(503, 0);
        x.frames(3);
        x.frameIs(3, 3, 1, 1, 5, 503, 6);
        x.tick(504, 0);
        x.frames(3);

        Run y = Run.sent(doc, 100, 20);
        y.flow(0, 0, 1, 1);
        y.receive(1, 1);
        y.tick(501, 0);
        y.frames(3);
        y.frame(3, 4, 500);
        y.tick(999, 0);
        y.frames(3);
        y.tick(1001, 1);
        y.frames(4);
        y.frame(4, 4, 1000);
    }

    private static void againAndAgain(Sentences doc) {
        Run x = Run.sent(doc, 100, 20);
        x.flow(0, 0, 1, 1);
        x.receive(1, 1);
        x.tick(4999, 1);
        x.frames(11);
        x.tick(5000, 0);
        x.frames(12);
        x.tick(10000, 0);
        x.frames(22);
        x.frame(22, 4, 10000);
        x.counts(0, 1, 0, 0, 0, 0, 0, 0);
    }

    private static void notWhenDone(Sentences doc) {
        for (int late = 0; late <= 1; late++) {
            Run x = Run.sent(doc, 100, 20, 1, 1, 1, 1);
            x.flow(0, 0, 1, 1);
            x.receive(1, 1);
            x.frames(6);
            x.tick(499 + late, 0);
            x.receive(5, 2);
            x.tick(999, 0);
            x.frames(6 + late);
            x.tick(1500, 1);
            x.frames(6 + late);
        }
    }

    private static void notAfterANewMessage(Sentences doc) {
        Run x = Run.sent(doc, 100, 20, 1, 1, 1, 20);
        x.flow(0, 0, 1, 1);
        x.receive(1, 1);
        x.tick(499, 0);
        x.receive(5, 1);
        x.frames(7);
        x.frameIs(7, 3, 5, 1, 0, 499, 0);
        x.tick(998, 0);
        x.frames(7);
        x.tick(999, 0);
        x.frames(8);
        x.frameIs(8, 3, 5, 1, 0, 999, 0);

        Run y = Run.sent(doc, 100, 20, 1, 1, 1, 20);
        y.flow(0, 0, 1, 1);
        y.receive(1, 1);
        y.flow(0, 0, 0, 1);
        y.tick(499, 0);
        y.receive(5, 1);
        y.tick(999, 0);
        y.frames(7);
        y.tick(1498, 2);
        y.ended(2, 0);
        y.tick(1499, 1);
        y.ended(2, 1);
        y.frames(7);
    }

    private static void onlyOnceByGoOn(Sentences doc) {
        Run x = Run.sent(doc, 100, 20);
        x.flow(0, 0, 1, 1);
        x.receive(1, 1);
        x.flow(0, 0, 0, 1);
        x.tick(500, 0);
        x.frames(3);
        x.frameIs(3, 3, 1, 0);
        x.flow(0, 0, 1, 1);
        x.tick(1499, 1);
        x.frames(3);
        x.tick(1500, 1);
        x.frames(3);
        x.counts(0, 1, 1, 0, 0, 0, 0, 0);
    }

    private static void patienceAfterFirst(Sentences doc) {
        doc.quote("Its time begins with each frame that reaches it and each ANSWER; "
            + "when it has been RECEIVING for 1000 ticks since, it is ENDED (2).");
        Run x = Run.sent(doc, 100, 20);
        x.tick(10, 0);
        x.receive(1, 1);
        x.receive(2, 2);
        x.tick(1009, 0);
        x.ended(2, 0);
        x.tick(1010, 1);
        x.counts(0, 0, 1, 0, 0, 0, 0, 0);
        x.tick(1011, 0);
        x.tick(6011, 0);

        Run y = Run.sent(doc, 100, 20);
        y.receive(1, 1);
        y.receive(2, 2);
        y.tick(999, 0);
        y.tick(1001, 1);
    }

    private static void patienceAfterConsecutives(Sentences doc) {
        Run x = Run.sent(doc, 100, 40);
        x.receive(1, 1);
        x.receive(2, 2);
        x.tick(999, 0);
        x.receive(3, 1);
        x.tick(1998, 0);
        x.receive(4, 1);
        x.tick(2997, 0);
        x.ended(2, 0);
        x.tick(2998, 1);
        x.counts(0, 0, 1, 0, 0, 0, 0, 0);
        x.receive(5, 3);
    }

    private static void patienceAfterAnAnswer(Sentences doc) {
        Run x = Run.sent(doc, 100, 20);
        x.flow(0, 0, 1, 1);
        x.receive(1, 1);
        x.receive(2, 1);
        x.flow(0, 0, 0, 1);
        x.tick(500, 0);
        x.receive(3, 2);
        x.tick(1499, 0);
        x.tick(1500, 1);
        x.counts(0, 0, 1, 0, 0, 0, 0, 0);
    }

    private static void noPatienceIsNeeded(Sentences doc) {
        Run x = Run.sent(doc, 13, 7, 13, 14);
        x.receive(1, 2);
        x.receive(2, 1);
        x.receive(3, 3);
        x.receive(4, 2);
        x.receive(5, 4);
        x.tick(0, 0);
        x.receive(6, 2);
        x.tick(5000, 0);
        x.counts(2, 0, 0, 0, 2, 0, 0, 0);
    }

    private static void theLastMoment(Sentences doc) {
        for (int late = 0; late <= 1; late++) {
            Run x = Run.sent(doc, 100, 20);
            x.receive(1, 1);
            x.receive(2, 2);
            x.tick(998, 0);
            x.tick(999 + late, late);
            x.receive(3, late == 0 ? 1 : 3);
            x.receive(4, late == 0 ? 2 : 3);
            x.ended(0, 1 - late);
        }
    }

    private static void fromNowOn(Sentences doc) {
        doc.quote("What receivers ANSWER from now on: 1.");
        Run x = Run.sent(doc, 100, 20, 20, 20, 20);
        x.receive(1, 1);
        x.flow(0, 255, 0, 1);
        x.receive(2, 1);
        x.flow(255, 0, 1, 1);
        x.receive(3, 1);
        x.flow(1, 1, 2, 1);
        x.receive(4, 3);
        x.flow(0, 0, 0, 1);
        x.frameIs(5, 3, 1, 0, 0, 0, 0);
        x.frameIs(6, 3, 2, 0, 0, 0, 255);
        x.frameIs(7, 3, 3, 1, 255, 0, 0);
        x.frameIs(8, 3, 4, 2, 1, 0, 1);
    }

    private static void refusedFlows(Sentences doc) {
        doc.quote("-2 block or separation is not 0 .. 255, or kind not 0 .. 2.");
        int[][] taken = {{0, 0, 0}, {1, 1, 1}, {254, 254, 1}, {255, 255, 0}, {0, 255, 1}, {255, 0, 2}};
        int[][] refused = {{-1, 9, 0}, {256, 9, 0}, {9, -1, 0}, {9, 256, 0}, {9, 9, -1}, {9, 9, 3}, {-2, -2, -2},
            {257, 257, 4}, {Integer.MIN_VALUE, 9, 0}, {Integer.MAX_VALUE, 9, 0}, {9, Integer.MIN_VALUE, 0},
            {9, Integer.MAX_VALUE, 0}, {9, 9, Integer.MIN_VALUE}, {9, 9, Integer.MAX_VALUE}, {-1, 0, 2}, {0, 256, 1}};
        for (int[] t : taken) {
            Run x = Run.sent(doc, 100, 20);
            x.flow(t[0], t[1], t[2], 1);
            for (int[] r : refused) {
                x.flow(r[0], r[1], r[2], -2);
            }
            x.receive(1, t[2] == 2 ? 3 : 1);
            x.frameIs(2, 3, 1, t[2], t[0], 0, t[1]);
        }
    }
}
