/** Edges of how an object is made and used, of refusals, and of promises 1, 9, 10 and 11. */
final class CallEdges {
    private CallEdges() {
    }

    static void run(Sentences doc) {
        theLastCall(doc);
        rooms(doc);
        otherRooms(doc);
        gotOctets(doc);
        gotOutside(doc);
        lengths(doc);
        wholeMessages(doc);
        reasons(doc);
        noSuchCount(doc);
        theFirstRefusalThatFits(doc);
        refusalsChangeNothing(doc);
    }

    private static void theLastCall(Sentences doc) {
        doc.quote("An object is used for at most 512 calls after it has been made;");
        Run x = Run.sent(doc, 6 + 7 * 240, 6 + 7 * 240);
        x.octet(1, 6 + 7 * 240 - 1, 77);
        x.receive(1, 1);
        x.receive(2, 2);
        x.tick(0, 0);
        for (int i = 3; i <= 241; i++) {
            x.receive(i, 1);
            x.frame(i, 2, (i - 2) % 16);
        }
        x.receive(242, 2);
        while (x.calls() < 509) {
            x.length(6 + 7 * 240);
        }
        x.got(6 + 7 * 240 - 1, 77);
        x.gotThrows(6 + 7 * 240);
        x.ended(0, 1);
        doc.is("calls of the run", 512, x.calls());
    }

    private static void rooms(Sentences doc) {
        doc.quote("Receivers with so much ROOM (0 .. 65536;");
        int[] rooms = {0, 1, 7, 8, 9, 4094, 4095, 4096, 4097, 9998, 9999, 10000, 10001, 65535, 65536};
        for (int room : rooms) {
            roomIs(doc, room, room);
        }
    }

    private static void otherRooms(Sentences doc) {
        doc.quote("4095 for any other number).");
        int[] rooms = {-1, -2, 65537, 65538, 100000, Integer.MIN_VALUE, Integer.MIN_VALUE + 1, Integer.MAX_VALUE};
        for (int room : rooms) {
            roomIs(doc, room, 4095);
        }
    }

    /** Each of the four receivers takes a first frame of a message with as many octets, and none with one more. */
    private static void roomIs(Sentences doc, int made, int room) {
        for (int n = room - 1; n <= room + 1; n++) {
            int length = Math.max(8, Math.min(10000, n));
            Run x = Run.sent(doc, made, length, length, length, length);
            boolean fits = length <= room;
            x.receiveAll(1, 4, fits ? 1 : 3);
            x.frame(8, 2, fits ? 0 : 2);
            x.ended(4, fits ? 0 : 4);
        }
    }

    private static void gotOctets(Sentences doc) {
        doc.quote("Octet i of what was GOT.");
        Run x = new Run(doc, 100);
        x.sends(20, 1);
        x.octet(1, 0, -128);
        x.octet(1, 5, -1);
        x.octet(1, 6, 1);
        x.octet(1, 12, 127);
        x.octet(1, 13, 2);
        x.octet(1, 19, 3);
        x.octet(2, 0, 4);
        x.tick(0, 0);
        x.receive(1, 1);
        x.receive(3, 2);
        x.tick(0, 0);
        x.receive(4, 1);
        x.receive(5, 2);
        int[] want = {-128, 0, 0, 0, 0, -1, 1, 0, 0, 0, 0, 0, 127, 2, 0, 0, 0, 0, 0, 3};
        for (int i = 0; i < 20; i++) {
            x.got(i, want[i]);
        }
        x.receive(2, 2);
        x.got(0, 4);
        x.gotThrows(1);
    }

    private static void gotOutside(Sentences doc) {
        doc.quote("ArrayIndexOutOfBoundsException before and behind it (all, if nothing was).");
        Run x = new Run(doc, 100);
        int[] any = {-2, -1, 0, 1, 6, 7, Integer.MIN_VALUE, Integer.MAX_VALUE};
        for (int i : any) {
            x.gotThrows(i);
        }
        x.sends(7, 20);
        x.tick(0, 0);
        x.receive(2, 1);
        for (int i : any) {
            x.gotThrows(i);
        }
        x.receive(1, 2);
        int[] outside = {-2, -1, 7, 8, 19, Integer.MIN_VALUE, Integer.MAX_VALUE};
        for (int i : outside) {
            x.gotThrows(i);
        }
        x.got(0, 0);
        x.got(6, 0);
        x.receive(3, 2);
        x.tick(0, 0);
        x.receive(4, 1);
        x.gotThrows(7);
        x.receive(5, 2);
        x.got(7, 0);
        x.got(19, 0);
        x.gotThrows(20);
        x.gotThrows(-1);
    }

    private static void lengths(Sentences doc) {
        doc.quote("How many octets were GOT; 0 if nothing was.");
        Run x = new Run(doc, 100);
        x.length(0);
        x.sends(1, 7, 8, 100);
        x.length(0);
        x.tick(0, 0);
        x.length(0);
        x.receive(3, 1);
        x.length(0);
        x.receive(1, 2);
        x.length(1);
        x.receive(2, 2);
        x.length(7);
        x.receive(5, 2);
        x.tick(0, 0);
        x.length(7);
        x.receive(6, 2);
        x.length(8);
        x.receive(4, 1);
        x.receive(7, 2);
        x.tick(0, 0);
        x.receiveAll(8, 20, 1);
        x.length(8);
        x.receive(21, 2);
        x.length(100);
    }

    private static void wholeMessages(Sentences doc) {
        doc.quote("How many messages became WHOLE (what 0),");
        Run x = Run.sent(doc, 100, 1, 13, 14, 101);
        x.ended(0, 0);
        x.receive(1, 2);
        x.ended(0, 1);
        x.receive(2, 1);
        x.receive(3, 1);
        x.receive(4, 3);
        x.receive(5, 2);
        x.receive(6, 2);
        x.tick(0, 0);
        x.ended(0, 1);
        x.receive(8, 2);
        x.ended(0, 2);
        x.receive(9, 1);
        x.ended(0, 2);
        x.receive(10, 2);
        x.ended(0, 3);
    }

    /** Each reason alone, counted once and then once more. */
    private static void reasons(Sentences doc) {
        doc.quote("or how many sides were ENDED by the reason 1 to 7.");
        Run giveUp = new Run(doc, 100);
        giveUp.send(20, 1);
        giveUp.tick(1, 0);
        giveUp.send(20, 2);
        giveUp.tick(1000, 1);
        giveUp.counts(0, 1, 0, 0, 0, 0, 0, 0);
        giveUp.tick(1001, 1);
        giveUp.counts(0, 2, 0, 0, 0, 0, 0, 0);

        Run noFrame = Run.sent(doc, 100, 13, 13);
        noFrame.receive(1, 1);
        noFrame.receive(3, 2);
        noFrame.tick(1, 0);
        noFrame.receive(2, 1);
        noFrame.receive(5, 2);
        noFrame.tick(1000, 1);
        noFrame.counts(0, 0, 1, 0, 0, 0, 0, 0);
        noFrame.tick(1001, 1);
        noFrame.counts(0, 0, 2, 0, 0, 0, 0, 0);

        Run order = Run.sent(doc, 100, 20, 20);
        order.receiveAll(1, 2, 1);
        order.receiveAll(3, 4, 2);
        order.tick(0, 0);
        order.receive(6, 3);
        order.counts(0, 0, 0, 1, 0, 0, 0, 0);
        order.receive(8, 3);
        order.counts(0, 0, 0, 2, 0, 0, 0, 0);
        reasonsOfAnswers(doc);
    }

    private static void reasonsOfAnswers(Sentences doc) {
        Run overflow = Run.sent(doc, 8, 9);
        overflow.receive(1, 3);
        overflow.counts(0, 0, 0, 0, 1, 0, 0, 0);
        overflow.receive(2, 4);
        overflow.counts(0, 0, 0, 0, 2, 0, 0, 0);

        Run waits = Run.sent(doc, 100, 20, 20);
        waits.wait2(0, 3);
        waits.flow(0, 0, 1, 1);
        waits.receiveAll(1, 2, 1);
        waits.receive(3, 4);
        waits.counts(0, 0, 0, 0, 0, 1, 0, 0);
        waits.receive(4, 4);
        waits.counts(0, 0, 0, 0, 0, 2, 0, 0);

        Run anew = Run.sent(doc, 100, 20, 1, 1, 1, 20, 1, 1, 1, 20);
        anew.receive(1, 1);
        anew.receive(5, 1);
        anew.counts(0, 0, 0, 0, 0, 0, 1, 0);
        anew.receive(9, 1);
        anew.counts(0, 0, 0, 0, 0, 0, 2, 0);

        Run full = FullEdges.filled(doc, 6000, 1);
        full.send(1, 7);
        full.tick(0, 1);
        full.counts(0, 0, 0, 0, 0, 0, 1, 1);
        full.send(8, 8);
        full.tick(0, 1);
        full.counts(0, 0, 0, 0, 0, 0, 1, 2);
    }

    private static void noSuchCount(Sentences doc) {
        doc.quote("by the reason 1 to 7. -2 no such what.");
        Run x = Run.sent(doc, 100, 1, 101);
        x.receive(1, 2);
        x.receive(2, 3);
        int[] noSuch = {-2, -1, 8, 9, Integer.MIN_VALUE, Integer.MAX_VALUE};
        for (int what : noSuch) {
            x.ended(what, -2);
        }
        x.ended(0, 1);
        x.ended(1, 0);
        x.ended(4, 1);
        x.ended(6, 0);
        x.ended(7, 0);
    }

    private static void theFirstRefusalThatFits(Sentences doc) {
        doc.quote("answer, the first that fits: -1 an unknown number, -2 outside a range, -3 not in this state, -4 no room.");
        Run x = new Run(doc, 100);
        x.frame(1, 15, -1);
        for (int m = 1; m <= 100; m++) {
            x.send(1, m);
        }
        x.tick(0, 0);
        x.frame(101, 15, -1);
        x.frame(101, 0, -1);
        x.frame(100, 15, -2);
        x.frame(100, 0, 0);
        x.frame(0, 15, -1);
        x.receive(100, 2);
        x.receive(100, -3);
        x.lose(99, true);
        x.receive(99, -3);
        x.receive(101, -1);
        x.receive(0, -1);
        x.send(-1, -2);
        x.send(10001, -2);
        x.send(10000, -4);
        x.send(1, -4);
    }

    private static void refusalsChangeNothing(Sentences doc) {
        doc.quote("REFUSALS change nothing and answer,");
        Run x = new Run(doc, 20);
        refuseAll(x, 0);
        x.sends(20, 1, 21);
        refuseAll(x, 0);
        x.tick(10, 0);
        x.receive(2, 2);
        refuseAll(x, 10);
        x.flow(1, 5, 1, 1);
        refuseAll(x, 10);
        x.receive(1, 1);
        x.frameIs(4, 3, 1, 1, 1, 10, 5);
        x.wait2(1, 3);
        refuseAll(x, 10);
        x.receive(4, 1);
        refuseAll(x, 10);
        x.flow(1, 5, 0, 1);
        x.tick(510, 0);
        refuseAll(x, 510);
        x.frameIs(5, 3, 1, 0, 1, 510, 5);
        x.receive(5, 2);
        refuseAll(x, 510);
        x.tick(510, 0);
        x.frames(6);
        x.receive(6, 1);
        x.receive(7, 2);
        refuseAll(x, 510);
        x.tick(510, 0);
        refuseAll(x, 510);
        x.receive(8, 2);
        x.length(20);
        x.wait2(0, 1);
        x.tick(1000, 1);
        x.receive(3, 3);
        refuseAll(x, 1000);
        x.functional(false, 3);
        x.frames(9);
        x.counts(2, 1, 0, 0, 1, 0, 0, 0);
        x.tick(6000, 0);
        x.length(20);
    }

    /** Frames 2 and up may be gone already; those that are not there are refused by their number. */
    private static void refuseAll(Run x, long now) {
        x.send(-1, -2);
        x.send(10001, -2);
        x.frame(-1, 0, -1);
        x.frame(0, 1, -1);
        x.frame(6001, 15, -1);
        x.receive(0, -1);
        x.receive(6001, -1);
        x.receive(2, now == 0 ? -1 : -3);
        x.frame(2, 6, now == 0 ? -1 : -2);
        x.flow(256, 9, 2, -2);
        x.flow(9, -1, 2, -2);
        x.flow(9, 9, 3, -2);
        x.tick(now - 1, -2);
        x.tick(now + 5001, -2);
        x.ended(-1, -2);
        x.ended(8, -2);
        x.wait2(-1, -2);
        x.wait2(101, -2);
    }
}
