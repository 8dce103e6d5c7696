/** Edges of frames: the term FRAMES, the kinds, promises 4, 5 and 6. */
final class FrameEdges {
    private FrameEdges() {
    }

    static void run(Sentences doc) {
        framesWait(doc);
        singles(doc);
        firsts(doc);
        consecutives(doc);
        whatIsLeft(doc);
        sequences(doc);
        octetsOfTheTime(doc);
        flows(doc);
        frameTells(doc);
        timesAndSeparations(doc);
        octetsOfAFrame(doc);
        howManyFrames(doc);
        unknownFrames(doc);
        states(doc);
        receivedTwice(doc);
        lost(doc);
    }

    private static void framesWait(Sentences doc) {
        doc.quote("each belongs to a message, and waits until it reaches the other side or is lost.");
        Run x = Run.sent(doc, 100, 1, 2, 3, 20);
        for (int i = 1; i <= 4; i++) {
            x.frame(i, 1, i);
        }
        x.receive(1, 2);
        x.lose(2, true);
        x.tick(5000, 1);
        x.tick(10000, 0);
        x.frames(4);
        x.receive(1, -3);
        x.receive(2, -3);
        x.lose(1, false);
        x.lose(2, false);
        x.receive(3, 2);
        x.length(3);
        x.receive(4, 1);
        x.frame(5, 1, 4);
        x.tick(15000, 1);
        x.receive(5, 4);
        x.receive(5, -3);
    }

    private static void singles(Sentences doc) {
        doc.quote("Kinds: 0 SINGLE: 1 to 7 octets, a whole message.");
        Run x = new Run(doc, 100);
        x.send(0, 0);
        x.sends(1, 2, 6, 7, 8);
        x.octet(4, 6, 77);
        x.tick(0, 0);
        x.frames(5);
        x.frameIs(1, 0, 1, 0, 1);
        x.frameIs(2, 0, 2, 0, 2);
        x.frameIs(3, 0, 3, 0, 6);
        x.frameIs(4, 0, 4, 0, 7);
        x.frameIs(5, 1, 5, 8, 6);
        x.receive(1, 2);
        x.length(1);
        x.receive(4, 2);
        x.length(7);
        x.got(6, 77);
        x.receive(5, 1);
        x.length(7);
        x.ended(0, 2);
    }

    private static void firsts(Sentences doc) {
        doc.quote("1 FIRST: the length, and the first 6 octets of a message of at most 4095 (of a longer one 2).");
        int[] lengths = {7, 8, 9, 4094, 4095, 4096, 4097, 9999, 10000};
        Run x = new Run(doc, 10000);
        x.sends(lengths);
        for (int m = 1; m <= lengths.length; m++) {
            for (int i = 0; i < 7; i++) {
                x.octet(m, i, 10 * m + i);
            }
        }
        x.tick(0, 0);
        x.frame(1, 0, 0);
        for (int m = 2; m <= lengths.length; m++) {
            int b = 10 * m;
            if (lengths[m - 1] <= 4095) {
                x.frameIs(m, 1, m, lengths[m - 1], 6, 0, 0);
                x.octetsAre(m, b, b + 1, b + 2, b + 3, b + 4, b + 5);
            } else {
                x.frameIs(m, 1, m, lengths[m - 1], 2, 0, 0);
                x.octetsAre(m, b, b + 1);
            }
        }
    }

    /** A message of this length, sent and answered, so that all its consecutive frames, 3 and up, are made. */
    private static Run allFramed(Sentences doc, int length) {
        Run x = new Run(doc, 10000);
        x.sends(length);
        x.octet(1, length - 2, 50);
        x.octet(1, length - 1, 51);
        x.tick(0, 0);
        x.receive(1, 1);
        x.receive(2, 2);
        x.tick(0, 0);
        return x;
    }

    private static void consecutives(Sentences doc) {
        doc.quote("2 CONSECUTIVE: a SEQUENCE number and the next 7 octets, or what is left;");
        Run x = new Run(doc, 100);
        x.sends(22);
        for (int i = 0; i < 22; i++) {
            x.octet(1, i, i + 1);
        }
        x.tick(0, 0);
        x.receive(1, 1);
        x.receive(2, 2);
        x.tick(0, 0);
        x.frames(5);
        x.frameIs(3, 2, 1, 1, 7, 0, 0);
        x.octetsAre(3, 7, 8, 9, 10, 11, 12, 13);
        x.frameIs(4, 2, 1, 2, 7, 0, 0);
        x.octetsAre(4, 14, 15, 16, 17, 18, 19, 20);
        x.frameIs(5, 2, 1, 3, 2, 0, 0);
        x.octetsAre(5, 21, 22);
    }

    private static void whatIsLeft(Sentences doc) {
        int[][] lengthFramesLeft = {{8, 1, 2}, {12, 1, 6}, {13, 1, 7}, {14, 2, 1}, {15, 2, 2}, {19, 2, 6}, {20, 2, 7},
            {21, 3, 1}, {4094, 584, 7}, {4095, 585, 1}, {4096, 585, 6}, {4097, 585, 7}, {4098, 586, 1},
            {9998, 1428, 7}, {9999, 1429, 1}, {10000, 1429, 2}};
        for (int[] want : lengthFramesLeft) {
            Run x = allFramed(doc, want[0]);
            int last = 2 + want[1];
            x.frames(last);
            x.frameIs(last, 2, 1, want[1] % 16, want[2]);
            x.frame(last, 7 + want[2], 51);
            if (want[2] > 1) {
                x.frame(last, 6 + want[2], 50);
            }
        }
    }

    private static void sequences(Sentences doc) {
        doc.quote("the first one has SEQUENCE 1, each next one 1 more, modulo 16.");
        Run x = allFramed(doc, 6 + 7 * 50);
        x.frames(52);
        for (int k = 1; k <= 50; k++) {
            x.frame(2 + k, 2, k % 16);
        }
        x.frame(2 + 15, 2, 15);
        x.frame(2 + 16, 2, 0);
        x.frame(2 + 17, 2, 1);
        blocksGoOnWithTheSequence(doc);
    }

    private static void blocksGoOnWithTheSequence(Sentences doc) {
        Run x = Run.sent(doc, 1000, 6 + 7 * 18);
        x.flow(15, 0, 0, 1);
        x.receive(1, 1);
        x.receive(2, 2);
        x.tick(0, 0);
        x.frames(17);
        x.receiveAll(3, 17, 1);
        x.receive(18, 2);
        x.tick(0, 0);
        x.frames(21);
        x.frameIs(17, 2, 1, 15);
        x.frameIs(19, 2, 1, 0);
        x.frameIs(20, 2, 1, 1);
        x.frameIs(21, 2, 1, 2);
        x.receiveAll(19, 20, 1);
        x.receive(21, 2);
        waitsGoOnWithTheSequence(doc);
    }

    private static void waitsGoOnWithTheSequence(Sentences doc) {
        Run x = Run.sent(doc, 100, 60);
        x.flow(2, 0, 0, 1);
        x.receive(1, 1);
        x.receive(2, 2);
        x.tick(0, 0);
        x.flow(2, 0, 1, 1);
        x.receiveAll(3, 4, 1);
        x.receive(5, 1);
        x.flow(2, 0, 0, 1);
        x.tick(500, 0);
        x.receive(6, 2);
        x.tick(500, 0);
        x.frames(8);
        x.frameIs(7, 2, 1, 3);
        x.frameIs(8, 2, 1, 4);
        x.receiveAll(7, 8, 1);
    }

    private static void octetsOfTheTime(Sentences doc) {
        doc.quote("These are the SENDER's; their octets are those that the message has when the frame is made.");
        Run x = new Run(doc, 100);
        x.sends(20, 1);
        x.octet(1, 5, 1);
        x.octet(2, 0, 1);
        x.octet(2, 0, 2);
        x.tick(0, 0);
        x.octet(2, 0, 3);
        x.octet(1, 5, 2);
        x.octet(1, 6, 3);
        x.flow(0, 10, 0, 1);
        x.receive(1, 1);
        x.receive(3, 2);
        x.octet(1, 6, 4);
        x.octet(1, 13, 5);
        x.tick(9, 0);
        x.frames(4);
        x.octet(1, 6, 6);
        x.octet(1, 13, 7);
        x.tick(10, 0);
        x.frames(5);
        x.octet(1, 13, 8);
        x.octetsAre(1, 0, 0, 0, 0, 0, 1);
        x.octetsAre(2, 2);
        x.octetsAre(4, 4);
        x.octetsAre(5, 7);
        x.receive(2, 2);
        x.got(0, 2);
        x.receive(4, 1);
        x.receive(5, 2);
        x.got(5, 1);
        x.got(6, 4);
        x.got(13, 7);
        x.octet(1, 13, 9);
        x.got(13, 7);
    }

    private static void flows(Sentences doc) {
        doc.quote("3 FLOW, the RECEIVER's: a FLOW KIND (0 go on, 1 wait, 2 overflow), a BLOCK and a SEPARATION.");
        Run x = Run.sent(doc, 100, 20, 20, 20);
        x.flow(1, 255, 0, 1);
        x.receive(1, 1);
        x.flow(254, 254, 1, 1);
        x.receive(2, 1);
        x.flow(255, 0, 2, 1);
        x.receive(3, 3);
        x.frameIs(4, 3, 1, 0, 1, 0, 255);
        x.frameIs(5, 3, 2, 1, 254, 0, 254);
        x.frameIs(6, 3, 3, 2, 255, 0, 0);
        x.receive(4, 2);
        x.receive(5, 1);
        x.receive(6, 4);
    }

    private static void frameTells(Sentences doc) {
        doc.quote("Of a frame: what = 0 its kind, 1 its message, 2 the length (1), the SEQUENCE (2), the FLOW KIND (3), "
            + "0 (0), 3 how many octets it has (of a FLOW: its BLOCK),");
        Run x = Run.sent(doc, 100, 7, 21);
        x.flow(9, 0, 1, 1);
        x.receive(2, 1);
        x.flow(8, 0, 0, 1);
        x.tick(500, 0);
        x.receive(4, 2);
        x.tick(500, 0);
        x.frames(7);
        int[][] want = {{0, 1, 0, 7}, {1, 2, 21, 6}, {3, 2, 1, 9}, {3, 2, 0, 8}, {2, 2, 1, 7}, {2, 2, 2, 7}, {2, 2, 3, 1}};
        for (int i = 1; i <= 7; i++) {
            x.frameIs(i, want[i - 1]);
        }
    }

    private static void timesAndSeparations(Sentences doc) {
        doc.quote("4 at which time it was made, 5 its SEPARATION (0 for others),");
        Run x = new Run(doc, 100);
        x.tick(5000, 0);
        x.sends(7, 20);
        x.tick(5001, 0);
        x.flow(0, 255, 0, 1);
        x.receive(2, 1);
        x.tick(5003, 0);
        x.receive(3, 2);
        x.tick(5130, 0);
        x.frames(5);
        int[][] want = {{5000, 0}, {5000, 0}, {5001, 255}, {5003, 0}, {5130, 0}};
        for (int i = 1; i <= 5; i++) {
            x.frame(i, 4, want[i - 1][0]);
            x.frame(i, 5, want[i - 1][1]);
        }
    }

    private static void octetsOfAFrame(Sentences doc) {
        doc.quote("8 to 14 octets (0 .. 255; 0 behind them).");
        Run x = new Run(doc, 100);
        x.sends(7, 6, 8);
        int[] bytes = {1, 127, -128, -127, -1, 0, 2};
        for (int i = 0; i < 7; i++) {
            x.octet(1, i, bytes[i]);
            x.octet(2, i, bytes[i]);
            x.octet(3, i, 9);
        }
        x.octet(3, 7, 9);
        x.tick(0, 0);
        x.octetsAre(1, 1, 127, 128, 129, 255, 0, 2);
        x.octetsAre(2, 1, 127, 128, 129, 255, 0);
        x.octetsAre(3, 9, 9, 9, 9, 9, 9);
        x.flow(7, 7, 0, 1);
        x.receive(3, 1);
        x.octetsAre(4);
        x.receive(4, 2);
        x.tick(0, 0);
        x.octetsAre(5, 9, 9);
        for (int i = 1; i <= 5; i++) {
            x.frame(i, 7, -2);
            x.frame(i, 15, -2);
        }
    }

    private static void howManyFrames(Sentences doc) {
        doc.quote("i = 0 with what = 0: how many frames there are.");
        Run x = new Run(doc, 100);
        x.frame(0, 0, 0);
        x.send(1, 1);
        x.frame(0, 0, 0);
        x.tick(0, 0);
        x.frame(0, 0, 1);
        x.lose(1, true);
        x.frame(0, 0, 1);
        x.frame(-1, 0, -1);
        x.frame(0, -1, -1);
        x.frame(0, 1, -1);
        x.frame(1, 0, 0);
    }

    private static void unknownFrames(Sentences doc) {
        doc.quote("-1 there is none, -2 no such what.");
        Run x = new Run(doc, 100);
        x.frame(1, 0, -1);
        x.sends(1, 1);
        x.frame(1, 0, -1);
        x.tick(0, 0);
        x.frame(1, 1, 1);
        x.frame(2, 1, 2);
        int[] unknown = {-1, 3, 4, 6000, 6001, Integer.MIN_VALUE, Integer.MAX_VALUE};
        for (int i : unknown) {
            for (int what = -1; what <= 15; what++) {
                x.frame(i, what, -1);
            }
        }
        int[] noSuch = {-1, 6, 7, 15, 16, Integer.MIN_VALUE, Integer.MAX_VALUE};
        for (int what : noSuch) {
            x.frame(0, what, -1);
            x.frame(1, what, -2);
            x.frame(2, what, -2);
        }
        int[] such = {5, 8, 14};
        for (int what : such) {
            x.frame(0, what, -1);
            x.frame(1, what, 0);
        }
    }

    private static void states(Sentences doc) {
        doc.quote("A frame reaches the other side: the state of that side then.");
        Run x = Run.sent(doc, 20, 20, 20, 21, 7);
        x.receive(4, 2);
        x.receive(3, 3);
        x.receive(5, 4);
        x.receive(1, 1);
        x.flow(0, 0, 1, 1);
        x.receive(2, 1);
        x.receive(7, 1);
        x.receive(6, 2);
        x.tick(0, 0);
        x.receive(8, 1);
        x.receive(9, 2);
        x.flow(0, 0, 0, 1);
        x.tick(500, 0);
        x.flow(0, 0, 1, 1);
        x.receive(10, 2);
        x.tick(500, 0);
        x.receive(11, 1);
        x.receive(12, 2);
        x.counts(3, 0, 0, 0, 2, 0, 0, 0);
    }

    private static void receivedTwice(Sentences doc) {
        doc.quote("-1 there is none, -3 it did so before, or is lost.");
        Run x = new Run(doc, 100);
        x.receive(0, -1);
        x.receive(1, -1);
        x.sends(1, 20, 1);
        x.receive(1, -1);
        x.tick(0, 0);
        x.receive(0, -1);
        x.receive(-1, -1);
        x.receive(4, -1);
        x.receive(6001, -1);
        x.receive(Integer.MIN_VALUE, -1);
        x.receive(Integer.MAX_VALUE, -1);
        x.receive(1, 2);
        x.receive(1, -3);
        x.receive(1, -3);
        x.lose(3, true);
        x.receive(3, -3);
        x.receive(2, 1);
        x.receive(2, -3);
        x.frames(4);
        x.receive(4, 2);
        x.receive(4, -3);
        x.receive(5, -1);
        x.counts(1, 0, 0, 0, 0, 0, 0, 0);
    }

    private static void lost(Sentences doc) {
        doc.quote("A frame is lost: whether it was still on its way.");
        Run x = new Run(doc, 100);
        x.lose(0, false);
        x.lose(1, false);
        x.sends(1, 1, 20);
        x.lose(1, false);
        x.tick(0, 0);
        int[] unknown = {-1, 0, 4, 6001, Integer.MIN_VALUE, Integer.MAX_VALUE};
        for (int i : unknown) {
            x.lose(i, false);
        }
        x.lose(1, true);
        x.lose(1, false);
        x.receive(1, -3);
        x.receive(2, 2);
        x.lose(2, false);
        x.receive(3, 1);
        x.lose(3, false);
        x.lose(4, true);
        x.receive(4, -3);
        x.tick(5000, 2);
        x.counts(1, 1, 1, 0, 0, 0, 0, 0);
        x.frames(4);
        x.frameIs(4, 3, 3, 0, 0, 0, 0);
    }
}
