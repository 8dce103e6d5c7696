/** Edges of the number of frames: at most 6000, and what the sides do then. */
final class FullEdges {
    /** A message of this length makes 1431 frames with its flow, if nothing stops it. */
    private static final int LONG = 9999;
    private static final int FRAMES_OF_LONG = 1431;

    private FullEdges() {
    }

    static void run(Sentences doc) {
        atMostSixThousand(doc);
        singles(doc);
        firsts(doc);
        consecutives(doc);
        answersToFirsts(doc);
        answersToBlocks(doc);
        answersAgain(doc);
        overflows(doc);
        answersOfOverflow(doc);
        noFrameIsNeeded(doc);
    }

    /**
     * A run with so many frames at time 0, made by messages 1 to 5, which are all sent to their ends; the
     * first frame of message 6, of the given length, is frame 6 and on its way. Receivers 1, 2, 3 and 0
     * are receiving, and receiver 1 was ended once by a new message.
     */
    static Run filled(Sentences doc, int frames, int length) {
        int left = frames - 4 * FRAMES_OF_LONG - 3;
        Run x = Run.sent(doc, LONG, LONG, LONG, LONG, LONG, 6 + 7 * left, length);
        for (int m = 1; m <= 5; m++) {
            x.receive(m, 1);
            x.receive(6 + m, 2);
        }
        x.tick(0, 0);
        x.frames(frames);
        x.counts(0, 0, 0, 0, 0, 0, 1, 0);
        return x;
    }

    private static void atMostSixThousand(Sentences doc) {
        doc.quote("FRAMES are numbered from 1 on as they are made, at most 6000;");
        Run x = new Run(doc, 100);
        x.frames(0);
        x.frame(1, 1, -1);
        x.sends(20, 1);
        x.tick(0, 0);
        x.frame(1, 1, 1);
        x.frame(2, 1, 2);
        x.frame(3, 1, -1);
        x.receive(1, 1);
        x.frameIs(3, 3, 1);
        x.receive(3, 2);
        x.tick(0, 0);
        x.frameIs(4, 2, 1, 1);
        x.frameIs(5, 2, 1, 2);
        x.frames(5);

        Run y = filled(doc, 5999, 1);
        y.frame(5999, 0, 2);
        y.frame(6000, 0, -1);
        y.receive(6000, -1);
        y.send(2, 7);
        y.tick(0, 0);
        y.frames(6000);
        y.frameIs(6000, 0, 7, 0, 2);
        y.frame(6001, 0, -1);
        y.send(3, 8);
        y.tick(0, 1);
        y.frames(6000);
        y.frame(6001, 0, -1);
        y.lose(6001, false);
        y.receive(6001, -1);
        y.receive(6000, 2);
        y.length(2);
    }

    private static void singles(Sentences doc) {
        doc.quote("When there are 6000 frames, the side that would make one is ENDED (7) instead.");
        for (int frames = 5998; frames <= 6000; frames++) {
            Run x = filled(doc, frames, 1);
            x.send(1, 7);
            x.send(7, 8);
            int ended = frames - 5998;
            x.tick(0, ended);
            x.frames(6000);
            x.counts(0, 0, 0, 0, 0, 0, 1, ended);
            x.tick(999, 0);
            x.counts(0, 0, 0, 0, 0, 0, 1, ended);
        }
    }

    private static void firsts(Sentences doc) {
        for (int frames = 5998; frames <= 6000; frames++) {
            Run x = filled(doc, frames, 1);
            x.send(8, 7);
            x.send(10000, 8);
            int ended = frames - 5998;
            x.tick(0, ended);
            x.frames(6000);
            x.ended(7, ended);
            x.tick(1000, 4 + 2 - ended);
            x.counts(0, 2 - ended, 4, 0, 0, 0, 1, ended);
        }
    }

    /** Message 6 has two consecutive frames; its flow is a frame too. */
    private static void consecutives(Sentences doc) {
        for (int frames = 5997; frames <= 5999; frames++) {
            Run x = filled(doc, frames, 20);
            x.receive(6, 1);
            x.frames(frames + 1);
            x.receive(frames + 1, 2);
            int ended = frames == 5997 ? 0 : 1;
            x.tick(0, ended);
            x.frames(6000);
            x.counts(0, 0, 0, 0, 0, 0, 2, ended);
            x.frame(6000, 0, frames == 5999 ? 3 : 2);
            x.tick(999, 0);
        }
    }

    private static void answersToFirsts(Sentences doc) {
        for (int frames = 5999; frames <= 6000; frames++) {
            int ended = frames - 5999;
            Run x = filled(doc, frames, 20);
            x.receive(6, ended == 0 ? 1 : 3);
            x.frames(6000);
            x.counts(0, 0, 0, 0, 0, 0, 2, ended);
            x.tick(1000, 5 - ended);
            x.counts(0, 1, 4 - ended, 0, 0, 0, 2, ended);
        }
    }

    private static void answersToBlocks(Sentences doc) {
        for (int frames = 5997; frames <= 5998; frames++) {
            int ended = frames - 5997;
            Run x = filled(doc, frames, 20);
            x.flow(1, 0, 0, 1);
            x.receive(6, 1);
            x.receive(frames + 1, 2);
            x.tick(0, 0);
            x.frames(frames + 2);
            x.receive(frames + 2, ended == 0 ? 1 : 3);
            x.frames(6000);
            x.counts(0, 0, 0, 0, 0, 0, 2, ended);
        }
    }

    private static void answersAgain(Sentences doc) {
        for (int frames = 5998; frames <= 5999; frames++) {
            int ended = frames - 5998;
            Run x = filled(doc, frames, 20);
            x.flow(0, 0, 1, 1);
            x.receive(6, 1);
            x.frames(frames + 1);
            x.tick(499, 0);
            x.tick(500, ended);
            x.frames(6000);
            x.counts(0, 0, 0, 0, 0, 0, 2, ended);
            x.tick(999, 0);
        }
    }

    /** With 6000 frames the reason is 7 alone, since no flow of overflow is made. */
    private static void overflows(Sentences doc) {
        for (int frames = 5999; frames <= 6000; frames++) {
            int ended = frames - 5999;
            Run x = filled(doc, frames, LONG + 1);
            x.receive(6, 3);
            x.frames(6000);
            x.counts(0, 0, 0, 0, 1 - ended, 0, 2, ended);
        }
    }

    private static void answersOfOverflow(Sentences doc) {
        for (int frames = 5999; frames <= 6000; frames++) {
            int ended = frames - 5999;
            Run x = filled(doc, frames, 20);
            x.flow(0, 0, 2, 1);
            x.receive(6, 3);
            x.frames(6000);
            x.counts(0, 0, 0, 0, 1 - ended, 0, 2, ended);
        }
    }

    /** A single frame and the last of a message are received as ever, and so are flows. */
    private static void noFrameIsNeeded(Sentences doc) {
        Run x = filled(doc, 6000, 1);
        x.receive(6, 2);
        x.counts(1, 0, 0, 0, 0, 0, 2, 0);

        Run y = filled(doc, 5998, 13);
        y.flow(1, 0, 0, 1);
        y.receive(6, 1);
        y.receive(5999, 2);
        y.tick(0, 0);
        y.frames(6000);
        y.receive(6000, 2);
        y.length(13);
        y.counts(1, 0, 0, 0, 0, 0, 2, 0);

        Run z = filled(doc, 5999, 13);
        z.receive(6, 1);
        z.frames(6000);
        z.receive(6000, 2);
        z.counts(0, 0, 0, 0, 0, 0, 2, 0);
        z.tick(0, 1);
        z.ended(7, 1);
    }
}
