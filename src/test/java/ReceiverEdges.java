/** Edges of the term A RECEIVER. */
final class ReceiverEdges {
    private ReceiverEdges() {
    }

    static void run(Sentences doc) {
        idle(doc);
        single(doc);
        aboveTheRoom(doc);
        withinTheRoom(doc);
        awaitsSequenceOne(doc);
        nothingOfTheMessageBefore(doc);
        newMessages(doc);
        newMessagesWhenNotReceiving(doc);
        sequences(doc);
        anEarlierFrame(doc);
        afterAWrongSequence(doc);
        theLastOctets(doc);
        sixteenLost(doc);
        blocks(doc);
        noBlock(doc);
        theLastOfTheBlockIsTheLastOfAll(doc);
        theBlockOfTheLastGoOn(doc);
        others(doc);
        othersLeaveTheTimes(doc);
        whatIsGot(doc);
    }

    /** Message 1 with so many consecutive frames, all made at time 0: frame 3 is the first of them. */
    private static Run framed(Sentences doc, int consecutives) {
        Run x = Run.sent(doc, 10000, 6 + 7 * consecutives);
        x.receive(1, 1);
        x.receive(2, 2);
        x.tick(0, 0);
        return x;
    }

    private static void idle(Sentences doc) {
        doc.quote("A RECEIVER, 0 IDLE at first.");
        Run x = new Run(doc, 100);
        x.tick(5000, 0);
        x.sends(1, 1, 1, 20);
        x.tick(5000, 0);
        x.receiveAll(1, 3, 2);
        x.receive(4, 1);
        x.counts(3, 0, 0, 0, 0, 0, 0, 0);
    }

    private static void single(Sentences doc) {
        doc.quote("SINGLE reaches it: the message is WHOLE; it is 2 DONE.");
        Run x = Run.sent(doc, 0, 1, 7, 8);
        x.length(0);
        x.ended(0, 0);
        x.receive(1, 2);
        x.length(1);
        x.ended(0, 1);
        x.receive(2, 2);
        x.length(7);
        x.ended(0, 2);
        x.frames(3);
        x.receive(3, 3);
        x.ended(0, 2);
        x.tick(999, 0);
    }

    private static void aboveTheRoom(Sentences doc) {
        doc.quote("FIRST: if the length is above the ROOM, a FLOW of kind 2 is made (BLOCK and SEPARATION 0), "
            + "and it is 3 ENDED (4);");
        int[] rooms = {0, 1, 7, 8, 9, 100, 4094, 4095, 4096, 9998, 9999};
        for (int room : rooms) {
            int tooLong = Math.max(8, room + 1);
            Run x = Run.sent(doc, room, tooLong);
            x.flow(5, 6, 1, 1);
            x.receive(1, 3);
            x.frames(2);
            x.frameIs(2, 3, 1, 2, 0, 0, 0);
            x.counts(0, 0, 0, 0, 1, 0, 0, 0);
            x.tick(500, 0);
            x.frames(2);
            x.receive(2, 4);
            x.tick(5000, 0);
            x.counts(0, 0, 0, 0, 2, 0, 0, 0);
        }
    }

    private static void withinTheRoom(Sentences doc) {
        doc.quote("otherwise it is 1 RECEIVING, has the octets that came, awaits SEQUENCE 1, and ANSWERS.");
        int[][] roomLength = {{8, 8}, {9, 8}, {9, 9}, {100, 99}, {100, 100}, {4095, 4095}, {4096, 4095}, {4096, 4096},
            {9999, 9999}, {10000, 10000}, {10001, 10000}, {65536, 10000}};
        for (int[] pair : roomLength) {
            Run x = Run.sent(doc, pair[0], pair[1]);
            x.flow(5, 6, 0, 1);
            x.receive(1, 1);
            x.frames(2);
            x.frameIs(2, 3, 1, 0, 5, 0, 6);
            x.receive(2, 2);
            x.tick(0, 0);
            x.receive(3, pair[1] <= 13 ? 2 : 1);
            x.counts(pair[1] <= 13 ? 1 : 0, 0, 0, 0, 0, 0, 0, 0);
        }
        Run x = new Run(doc, 8);
        x.sends(8);
        for (int i = 0; i < 8; i++) {
            x.octet(1, i, i + 1);
        }
        x.tick(0, 0);
        x.receive(1, 1);
        x.receive(2, 2);
        x.tick(0, 0);
        x.receive(3, 2);
        for (int i = 0; i < 8; i++) {
            x.got(i, i + 1);
        }
    }

    /** Also when the receiver awaited another sequence in the message before. */
    private static void awaitsSequenceOne(Sentences doc) {
        for (int first = 1; first <= 2; first++) {
            Run x = Run.sent(doc, 100, 60, 1, 1, 1, 60);
            x.receive(1, 1);
            x.receive(6, 2);
            x.tick(0, 0);
            x.receiveAll(7, 9, 1);
            x.frames(14);
            x.receive(5, 1);
            x.receive(15, 2);
            x.tick(0, 0);
            x.frame(15 + first, 2, first);
            x.receive(15 + first, first == 1 ? 1 : 3);
            x.ended(3, first == 1 ? 0 : 1);
        }
    }

    /** One message is left in the middle, the next two of the same receiver become whole. */
    private static void nothingOfTheMessageBefore(Sentences doc) {
        Run x = new Run(doc, 100);
        x.sends(27, 1, 1, 1, 20, 1, 1, 1, 20);
        x.octet(1, 19, 1);
        x.octet(5, 0, 2);
        x.octet(5, 19, 3);
        x.octet(9, 6, 4);
        x.tick(0, 0);
        x.receive(1, 1);
        x.receive(10, 2);
        x.tick(0, 0);
        x.receiveAll(11, 12, 1);
        for (int k = 0; k < 2; k++) {
            x.receive(5 + 4 * k, 1);
            x.receive(14 + 3 * k, 2);
            x.tick(0, 0);
            x.receive(15 + 3 * k, 1);
            x.ended(0, k);
            x.receive(16 + 3 * k, 2);
            x.length(20);
            x.got(0, k == 0 ? 2 : 0);
            x.got(6, k == 0 ? 0 : 4);
            x.got(19, k == 0 ? 3 : 0);
        }
        x.counts(2, 0, 0, 0, 0, 0, 1, 0);
    }

    private static void newMessages(Sentences doc) {
        doc.quote("If it is RECEIVING when either reaches it, that is ENDED (6) at first.");
        Run x = Run.sent(doc, 20, 20, 20, 20, 20, 7, 20, 21, 20);
        x.receiveAll(1, 4, 1);
        x.ended(6, 0);
        x.receive(5, 2);
        x.counts(1, 0, 0, 0, 0, 0, 1, 0);
        x.receive(6, 1);
        x.counts(1, 0, 0, 0, 0, 0, 2, 0);
        x.receive(7, 3);
        x.counts(1, 0, 0, 0, 1, 0, 3, 0);
        x.flow(0, 0, 2, 1);
        x.receive(8, 3);
        x.counts(1, 0, 0, 0, 2, 0, 4, 0);
    }

    private static void newMessagesWhenNotReceiving(Sentences doc) {
        Run x = Run.sent(doc, 20, 7, 1, 1, 1, 20, 1, 1, 1, 7, 1, 1, 1, 21, 1, 1, 1, 7, 1, 1, 1, 20, 1, 1, 1, 13);
        x.receive(1, 2);
        x.receive(5, 1);
        x.ended(6, 0);
        x.receive(9, 2);
        x.ended(6, 1);
        x.receive(13, 3);
        x.receive(17, 2);
        x.receive(21, 1);
        x.ended(6, 1);
        x.tick(1000, 5);
        x.ended(2, 1);
        x.receive(25, 1);
        x.counts(3, 4, 1, 0, 1, 0, 1, 0);
    }

    private static void sequences(Sentences doc) {
        doc.quote("CONSECUTIVE of the message that it is RECEIVING: with another SEQUENCE than the one awaited "
            + "it is ENDED (3).");
        int[] awaited = {1, 2, 14, 15, 16, 17};
        for (int k : awaited) {
            for (int j = k; j <= k + 17; j++) {
                boolean fits = (j - k) % 16 == 0;
                Run x = framed(doc, 40);
                x.receiveAll(3, 1 + k, 1);
                x.receive(2 + j, fits ? 1 : 3);
                x.ended(3, fits ? 0 : 1);
            }
        }
    }

    private static void anEarlierFrame(Sentences doc) {
        Run x = framed(doc, 40);
        x.receive(3, 1);
        x.receive(20, 1);
        x.receive(4, 3);
        x.ended(3, 1);

        Run y = framed(doc, 40);
        y.receive(3, 1);
        y.receive(20, 1);
        y.receive(5, 1);
        y.ended(3, 0);
    }

    private static void afterAWrongSequence(Sentences doc) {
        Run x = framed(doc, 3);
        x.receive(4, 3);
        x.receive(3, 3);
        x.receive(5, 3);
        x.counts(0, 0, 0, 1, 0, 0, 0, 0);
        x.tick(5000, 0);
        x.length(0);
    }

    private static void theLastOctets(Sentences doc) {
        doc.quote("Otherwise it has its octets too; with the last ones the message is WHOLE, it is DONE;");
        int[] lengths = {8, 12, 13, 14, 15, 19, 20, 21, 118, 119, 125, 126};
        for (int n : lengths) {
            Run x = new Run(doc, n);
            x.sends(n);
            for (int i = 0; i < n; i++) {
                x.octet(1, i, i + 1);
            }
            x.tick(0, 0);
            x.receive(1, 1);
            x.receive(2, 2);
            x.tick(0, 0);
            // The n - 6 octets behind the first frame, by sevens, the last ones rounded up.
            int last = 2 + n / 7;
            x.frames(last);
            x.receiveAll(3, last - 1, 1);
            x.length(0);
            x.ended(0, 0);
            x.receive(last, 2);
            x.length(n);
            for (int i = 0; i < n; i++) {
                x.got(i, i + 1);
            }
            x.gotThrows(n);
            x.tick(5000, 0);
            x.counts(1, 0, 0, 0, 0, 0, 0, 0);
        }
    }

    /** With 16 frames lost the next sequence fits again, but octets are left when the sender's last frame comes. */
    private static void sixteenLost(Sentences doc) {
        Run x = framed(doc, 18);
        x.receive(3, 1);
        x.loseAll(4, 19);
        x.receive(20, 1);
        x.length(0);
        x.counts(0, 0, 0, 0, 0, 0, 0, 0);
        x.tick(999, 0);
        x.tick(1000, 1);
        x.counts(0, 0, 1, 0, 0, 0, 0, 0);

        Run y = Run.sent(doc, 1000, 6 + 7 * 17 + 3);
        y.receive(1, 1);
        y.receive(2, 2);
        y.tick(0, 0);
        y.receive(3, 1);
        y.loseAll(4, 19);
        y.frame(20, 3, 3);
        y.receive(20, 1);
        y.ended(0, 0);
    }

    private static void blocks(Sentences doc) {
        doc.quote("otherwise, if as many have come since the last ANSWER of kind 0 as its BLOCK said (not 0), it ANSWERS.");
        int[] blocks = {1, 2, 3, 16, 17, 254, 255};
        for (int block : blocks) {
            Run x = Run.sent(doc, 10000, 6 + 7 * block + 1);
            x.flow(block, 0, 0, 1);
            x.receive(1, 1);
            x.receive(2, 2);
            x.tick(0, 0);
            x.frames(2 + block);
            x.receiveAll(3, 1 + block, 1);
            x.frames(2 + block);
            x.receive(2 + block, 1);
            x.frames(3 + block);
            x.frameIs(3 + block, 3, 1, 0, block, 0, 0);
        }
        Run x = Run.sent(doc, 100, 6 + 7 * 7);
        x.flow(3, 0, 0, 1);
        x.receive(1, 1);
        for (int k = 0; k < 2; k++) {
            x.receive(2 + 4 * k, 2);
            x.tick(0, 0);
            x.receiveAll(3 + 4 * k, 4 + 4 * k, 1);
            x.frames(5 + 4 * k);
            x.receive(5 + 4 * k, 1);
            x.frames(6 + 4 * k);
        }
    }

    private static void noBlock(Sentences doc) {
        Run x = framed(doc, 300);
        x.flow(1, 0, 0, 1);
        x.receiveAll(3, 301, 1);
        x.frames(302);
        x.receive(302, 2);
        x.frames(302);
    }

    private static void theLastOfTheBlockIsTheLastOfAll(Sentences doc) {
        for (int more = 0; more <= 1; more++) {
            Run x = Run.sent(doc, 100, 20 + more);
            x.flow(2, 0, 0, 1);
            x.receive(1, 1);
            x.receive(2, 2);
            x.tick(0, 0);
            x.receive(3, 1);
            x.receive(4, more == 0 ? 2 : 1);
            x.frames(4 + more);
            x.ended(0, 1 - more);
        }
    }

    /** Neither a block of an answer to wait nor one that was only set counts. */
    private static void theBlockOfTheLastGoOn(Sentences doc) {
        Run x = Run.sent(doc, 100, 6 + 7 * 9);
        x.flow(1, 0, 1, 1);
        x.receive(1, 1);
        x.flow(2, 0, 0, 1);
        x.tick(500, 0);
        x.flow(1, 0, 1, 1);
        x.receive(3, 2);
        x.tick(500, 0);
        x.frames(5);
        x.receive(4, 1);
        x.frames(5);
        x.receive(5, 1);
        x.frames(6);
        x.frameIs(6, 3, 1, 1, 1, 500, 0);
        x.flow(3, 0, 0, 1);
        x.tick(1000, 0);
        x.frames(7);
        x.flow(1, 0, 0, 1);
        x.receive(7, 2);
        x.tick(1000, 0);
        x.frames(10);
        x.receiveAll(8, 9, 1);
        x.frames(10);
        x.receive(10, 1);
        x.frames(11);
        x.frameIs(11, 3, 1, 0, 1, 1000, 0);
    }

    private static void others(Sentences doc) {
        doc.quote("Others do nothing.");
        Run x = Run.sent(doc, 100, 60, 1, 1, 1, 60, 1, 1, 1, 7);
        x.receive(1, 1);
        x.receive(10, 2);
        x.tick(0, 0);
        x.frames(18);
        x.receive(11, 1);
        x.flow(2, 0, 0, 1);
        x.receive(5, 1);
        x.frames(19);
        x.receive(12, 1);
        x.receive(15, 1);
        x.frames(19);
        x.counts(0, 0, 0, 0, 0, 0, 1, 0);
        x.receive(19, 2);
        x.tick(0, 0);
        x.receive(20, 1);
        x.receive(13, 1);
        x.frames(21);
        x.receive(21, 1);
        x.frames(22);
        x.receive(9, 2);
        x.receive(14, 2);
        x.counts(1, 0, 0, 0, 0, 0, 2, 0);
        x.length(7);
        x.lose(22, true);
        x.tick(1000, 1);
        x.receive(16, 2);
        x.counts(1, 1, 0, 0, 0, 0, 2, 0);
    }

    /** Neither the time after which the receiver gives up nor its next answer is moved. */
    private static void othersLeaveTheTimes(Sentences doc) {
        Run x = Run.sent(doc, 100, 40, 1, 1, 1, 40);
        x.receive(1, 1);
        x.receive(6, 2);
        x.tick(0, 0);
        x.frames(11);
        x.flow(0, 0, 1, 1);
        x.receive(5, 1);
        x.tick(499, 0);
        x.receive(7, 1);
        x.frames(12);
        x.tick(500, 0);
        x.frames(13);
        x.flow(0, 0, 0, 1);
        x.receive(13, 1);
        x.tick(1000, 0);
        x.frames(14);
        x.receive(14, 2);
        x.tick(1999, 0);
        x.receive(8, 1);
        x.tick(2000, 1);
        x.ended(2, 1);
        x.receive(9, 3);
        x.counts(0, 0, 1, 0, 0, 0, 1, 0);
    }

    private static void whatIsGot(Sentences doc) {
        doc.quote("The message that became WHOLE last is what is GOT.");
        Run x = new Run(doc, 20);
        x.sends(13, 7, 1, 21, 13);
        x.octet(1, 12, 1);
        x.octet(2, 6, 2);
        x.octet(3, 0, 3);
        x.tick(0, 0);
        x.receive(1, 1);
        x.receive(6, 2);
        x.length(0);
        x.gotThrows(0);
        x.receive(2, 2);
        x.length(7);
        x.got(6, 2);
        x.tick(0, 0);
        x.receive(7, 2);
        x.length(13);
        x.got(12, 1);
        x.receive(3, 2);
        x.length(1);
        x.got(0, 3);
        x.gotThrows(1);
        x.receive(4, 3);
        x.receive(5, 1);
        x.tick(1000, 3);
        x.length(1);
        x.got(0, 3);
        x.ended(0, 3);
    }
}
