/** Edges of messages: the term MESSAGES, promises 2, 3 and 13. */
final class MessageEdges {
    private MessageEdges() {
    }

    static void run(Sentences doc) {
        numbers(doc);
        lengths(doc);
        sendersOfTheirOwn(doc);
        fourReceivers(doc);
        theHundredthGoesToReceiverZero(doc);
        sentByTheNextStart(doc);
        noMessage(doc);
        noFunctionalMessage(doc);
        refusedLengths(doc);
        refusedMessages(doc);
        octets(doc);
        octetsOfNoMessage(doc);
        functional(doc);
    }

    private static void numbers(Sentences doc) {
        doc.quote("MESSAGES are numbered from 1 on, at most 100,");
        Run x = new Run(doc, 0);
        for (int m = 1; m <= 99; m++) {
            x.send(1, m);
        }
        x.functional(false, 99);
        x.send(1, 100);
        x.functional(false, 100);
        x.send(1, -4);
        x.functional(false, 100);
        x.tick(0, 0);
        x.frames(100);
        x.frame(1, 1, 1);
        x.frame(99, 1, 99);
        x.frame(100, 1, 100);
        x.send(1, -4);
    }

    private static void lengths(Sentences doc) {
        doc.quote("of 1 to 10000 octets, at first all 0;");
        Run x = new Run(doc, 10000);
        x.send(-1, -2);
        x.send(0, 0);
        x.send(1, 1);
        x.send(2, 2);
        x.send(9999, 3);
        x.send(10000, 4);
        x.send(10001, -2);
        x.tick(0, 0);
        x.frames(4);
        x.frameIs(1, 0, 1, 0, 1);
        x.octetsAre(1, 0);
        x.frameIs(2, 0, 2, 0, 2);
        x.octetsAre(2, 0, 0);
        x.frameIs(3, 1, 3, 9999);
        x.frameIs(4, 1, 4, 10000);

        Run y = Run.sent(doc, 100, 100);
        y.receive(1, 1);
        y.receive(2, 2);
        y.tick(0, 0);
        y.receiveAll(3, 15, 1);
        y.receive(16, 2);
        y.length(100);
        for (int i = 0; i < 100; i++) {
            y.got(i, 0);
        }
    }

    private static void sendersOfTheirOwn(Sentences doc) {
        doc.quote("each has a SENDER of its own;");
        Run x = Run.sent(doc, 100, 20, 20);
        x.receive(1, 1);
        x.receive(2, 1);
        x.lose(3, true);
        x.receive(4, 2);
        x.tick(0, 0);
        x.frames(6);
        x.frame(5, 1, 2);
        x.frame(6, 1, 2);
        x.tick(999, 0);
        x.tick(1000, 3);
        x.counts(0, 1, 2, 0, 0, 0, 0, 0);
    }

    private static void fourReceivers(Sentences doc) {
        doc.quote("there are four RECEIVERS, message m goes to the one m modulo 4.");
        Run x = Run.sent(doc, 100, 20, 20, 20, 20, 20);
        x.receiveAll(1, 4, 1);
        x.ended(6, 0);
        x.receive(5, 1);
        x.ended(6, 1);
        x.receiveAll(6, 9, 2);
        x.tick(0, 0);
        x.frames(18);
        x.receiveAll(11, 12, 1);
        for (int m = 2; m <= 4; m++) {
            x.receive(9 + 2 * m, 1);
            x.receive(10 + 2 * m, 2);
        }
        x.receive(10, 2);
        x.tick(0, 0);
        x.receive(19, 1);
        x.receive(20, 2);
        x.counts(4, 0, 0, 0, 0, 0, 1, 0);
    }

    private static void theHundredthGoesToReceiverZero(Sentences doc) {
        Run x = new Run(doc, 100);
        for (int m = 1; m <= 100; m++) {
            x.send(m <= 4 || m >= 99 ? 20 : 1, m);
        }
        x.tick(0, 0);
        x.receiveAll(1, 4, 1);
        x.receive(97, 2);
        x.counts(1, 0, 0, 0, 0, 0, 1, 0);
        x.receive(100, 1);
        x.ended(6, 2);
        x.receive(99, 1);
        x.ended(6, 3);
        x.receive(96, 2);
        x.receive(95, 2);
        x.receive(94, 2);
        x.counts(4, 0, 0, 0, 0, 0, 6, 0);
    }

    private static void sentByTheNextStart(Sentences doc) {
        doc.quote("A message of n octets is made, to be sent by the next start: its number;");
        Run x = new Run(doc, 0);
        x.tick(7, 0);
        x.frames(0);
        x.send(3, 1);
        x.frames(0);
        x.tick(6, -2);
        x.frames(0);
        x.tick(5008, -2);
        x.frames(0);
        x.tick(7, 0);
        x.frames(1);
        x.frameIs(1, 0, 1, 0, 3, 7);
        x.tick(7, 0);
        x.tick(8, 0);
        x.frames(1);
        x.send(4, 2);
        x.frames(1);
        x.tick(9, 0);
        x.frames(2);
        x.frameIs(2, 0, 2, 0, 4, 8);
    }

    private static void noMessage(Sentences doc) {
        doc.quote("0 (and there is none) if n is 0,");
        Run x = new Run(doc, 0);
        x.send(-1, -2);
        x.send(0, 0);
        x.functional(false, 0);
        x.send(1, 1);
        x.send(0, 0);
        x.functional(false, 1);
        x.send(2, 2);
        x.tick(0, 0);
        x.frames(2);
    }

    private static void noFunctionalMessage(Sentences doc) {
        doc.quote("or above 7 and messages are FUNCTIONAL.");
        Run x = new Run(doc, 0);
        x.functional(true, 0);
        x.send(6, 1);
        x.send(7, 2);
        x.send(8, 0);
        x.send(9, 0);
        x.send(9999, 0);
        x.send(10000, 0);
        x.send(0, 0);
        x.functional(true, 2);
        x.send(8, 0);
        x.functional(false, 2);
        x.send(8, 3);
        x.send(7, 4);
        x.send(10000, 5);
        x.tick(0, 0);
        x.frames(5);
    }

    private static void refusedLengths(Sentences doc) {
        doc.quote("-2 n is below 0 or above 10000,");
        Run x = new Run(doc, 0);
        for (int turn = 0; turn < 2; turn++) {
            x.send(-2, -2);
            x.send(-1, -2);
            x.send(0, 0);
            x.send(10001, -2);
            x.send(10002, -2);
            x.send(Integer.MIN_VALUE, -2);
            x.send(Integer.MAX_VALUE, -2);
            x.functional(true, 0);
        }
        x.functional(false, 0);
        x.send(9999, 1);
        x.send(10000, 2);
        x.send(10001, -2);
        x.functional(false, 2);
    }

    /** A refusal is looked for before the answer 0. */
    private static void refusedMessages(Sentences doc) {
        doc.quote("-4 there are 100.");
        Run x = new Run(doc, 0);
        for (int m = 1; m <= 98; m++) {
            x.send(1, m);
        }
        x.send(0, 0);
        x.send(10000, 99);
        x.send(0, 0);
        x.send(7, 100);
        x.send(1, -4);
        x.send(8, -4);
        x.send(10000, -4);
        x.send(0, -4);
        x.send(-1, -2);
        x.send(10001, -2);
        x.functional(true, 100);
        x.send(7, -4);
        x.send(8, -4);
        x.tick(0, 0);
        x.send(1, -4);
        x.frames(100);
    }

    private static void octets(Sentences doc) {
        doc.quote("Octet i of a message;");
        Run x = new Run(doc, 10000);
        x.sends(7, 1, 10000);
        x.octet(1, 0, 1);
        x.octet(1, 1, 127);
        x.octet(1, 5, -128);
        x.octet(1, 6, -1);
        x.octet(2, 0, 9);
        x.octet(3, 0, 10);
        x.octet(3, 1, 11);
        x.octet(3, 2, 12);
        x.octet(3, 9997, 20);
        x.octet(3, 9998, 21);
        x.octet(3, 9999, 22);
        x.octet(3, 9999, 23);
        x.tick(0, 0);
        x.octetsAre(1, 1, 127, 0, 0, 0, 128, 255);
        x.octetsAre(2, 9);
        x.octetsAre(3, 10, 11);
        x.receive(3, 1);
        x.receive(4, 2);
        x.tick(0, 0);
        x.frames(4 + 1429);
        x.octetsAre(5, 12);
        x.octetsAre(4 + 1428, 0, 0, 0, 0, 0, 0, 20);
        x.octetsAre(4 + 1429, 21, 23);
        x.receive(1, 2);
        x.got(0, 1);
        x.got(1, 127);
        x.got(5, -128);
        x.got(6, -1);
    }

    private static void octetsOfNoMessage(Sentences doc) {
        doc.quote("nothing if there is none.");
        Run x = new Run(doc, 0);
        x.octet(1, 0, 5);
        x.octet(2, 0, 5);
        x.send(7, 1);
        int[] outside = {-1, 7, 8, 10000, Integer.MIN_VALUE, Integer.MAX_VALUE};
        for (int i : outside) {
            x.octet(1, i, 6);
        }
        int[] unknown = {-1, 0, 2, 100, 101, Integer.MIN_VALUE, Integer.MAX_VALUE};
        for (int m : unknown) {
            x.octet(m, 0, 7);
            x.octet(m, 1, 7);
            x.octet(m, -1, 7);
        }
        x.functional(false, 1);
        x.send(0, 0);
        x.octet(2, 0, 8);
        x.send(7, 2);
        x.octet(1, 6, 1);
        x.octet(2, 0, 2);
        x.tick(0, 0);
        x.octetsAre(1, 0, 0, 0, 0, 0, 0, 1);
        x.octetsAre(2, 2, 0, 0, 0, 0, 0, 0);
    }

    private static void functional(Sentences doc) {
        doc.quote("Messages made from now on are FUNCTIONAL, or not: how many messages there are.");
        Run x = new Run(doc, 100);
        x.functional(false, 0);
        x.send(8, 1);
        x.functional(true, 1);
        x.functional(true, 1);
        x.send(8, 0);
        x.send(7, 2);
        x.tick(0, 0);
        x.frameIs(1, 1, 1, 8);
        x.frameIs(2, 0, 2, 0);
        x.receive(1, 1);
        x.receive(3, 2);
        x.tick(0, 0);
        x.frameIs(4, 2, 1, 1, 2);
        x.receive(4, 2);
        x.functional(false, 2);
        x.send(8, 3);
        x.functional(true, 3);
        x.tick(0, 0);
        x.frameIs(5, 1, 3, 8);
        for (int m = 4; m <= 100; m++) {
            x.send(1, m);
        }
        x.functional(true, 100);
        x.send(1, -4);
        x.functional(false, 100);
    }
}
