/** Promises 4 and 6, and the refusals of promise 5: what frames tell, and frames that are gone. */
final class FramesTest {
    private static final Due due = new Due("FramesTest");

    public static void main(String[] args) {
        singleFramesTell();
        firstFramesTell();
        consecutiveFramesTell();
        flowFramesTell();
        unknownFramesAndWhats();
        aFrameGoesOnce();
        due.finish();
    }

    private static void singleFramesTell() {
        LongTransfer x = new LongTransfer(0);
        for (int n = 1; n <= 7; n++) {
            x.send(n);
            for (int i = 0; i < n; i++) {
                x.octet(n, i, (byte) (200 + i));
            }
        }
        x.tick(0);
        due.framesAre(x, 7);
        for (int n = 1; n <= 7; n++) {
            due.frameIs(x, n, 0, n, 0, n, 0, 0, -2, -2);
            for (int i = 0; i < 7; i++) {
                due.is("frame(" + n + ", " + (8 + i) + ")", i < n ? 200 + i : 0, x.frame(n, 8 + i));
            }
        }
    }

    private static void firstFramesTell() {
        LongTransfer x = new LongTransfer(0);
        int[] lengths = {8, 4095, 4096, 10000};
        for (int m = 1; m <= 4; m++) {
            x.send(lengths[m - 1]);
            for (int i = 0; i < 8; i++) {
                x.octet(m, i, (byte) (i + 1));
            }
        }
        x.tick(7);
        for (int m = 1; m <= 4; m++) {
            int octets = m <= 2 ? 6 : 2;
            due.frameIs(x, m, 1, m, lengths[m - 1], octets, 0, 0, -2, -2);
            for (int i = 0; i < 7; i++) {
                due.is("frame(" + m + ", " + (8 + i) + ")", i < octets ? i + 1 : 0, x.frame(m, 8 + i));
            }
        }
    }

    /** 130 octets are 6 and 17 times 7 and 5: the sequence goes round once. */
    private static void consecutiveFramesTell() {
        LongTransfer x = new LongTransfer(200);
        x.send(130);
        for (int i = 0; i < 130; i++) {
            x.octet(1, i, (byte) i);
        }
        x.tick(10);
        x.flow(0, 2, 0);
        x.receive(1);
        x.receive(2);
        x.tick(200);
        due.framesAre(x, 20);
        for (int k = 1; k <= 18; k++) {
            int octets = k == 18 ? 5 : 7;
            due.frameIs(x, 2 + k, 2, 1, k % 16, octets, 10 + 2 * (k - 1), 0, -2, -2);
            for (int i = 0; i < 7; i++) {
                int want = i < octets ? 6 + 7 * (k - 1) + i : 0;
                due.is("frame(" + (2 + k) + ", " + (8 + i) + ")", want, x.frame(2 + k, 8 + i));
            }
        }
    }

    private static void flowFramesTell() {
        LongTransfer x = new LongTransfer(20);
        x.send(9);
        x.send(9);
        x.send(9);
        x.send(21);
        x.tick(3);
        x.flow(255, 254, 0);
        x.receive(2);
        x.flow(17, 241, 1);
        x.receive(1);
        x.flow(4, 5, 2);
        x.receive(3);
        x.receive(4);
        due.frameIs(x, 5, 3, 2, 0, 255, 3, 254, -2, -2);
        due.frameIs(x, 6, 3, 1, 1, 17, 3, 241, -2, -2);
        due.frameIs(x, 7, 3, 3, 2, 4, 3, 5, -2, -2);
        due.frameIs(x, 8, 3, 4, 2, 0, 3, 0, -2, -2);
        for (int what = 8; what <= 14; what++) {
            due.is("frame(5, " + what + ")", 0, x.frame(5, what));
        }
    }

    private static void unknownFramesAndWhats() {
        LongTransfer x = new LongTransfer(0);
        x.send(1);
        x.tick(0);
        int[] unknown = {-1, 2, 6001, Integer.MIN_VALUE, Integer.MAX_VALUE};
        for (int i : unknown) {
            due.is("frame(" + i + ", 0)", -1, x.frame(i, 0));
            due.is("frame(" + i + ", 99)", -1, x.frame(i, 99));
            due.is("receive(" + i + ")", -1, x.receive(i));
            due.is("lose(" + i + ")", false, x.lose(i));
        }
        due.is("frame(0, 1)", -1, x.frame(0, 1));
        due.is("frame(0, -1)", -1, x.frame(0, -1));
        due.is("frame(0, 8)", -1, x.frame(0, 8));
        due.is("receive(0)", -1, x.receive(0));
        due.is("lose(0)", false, x.lose(0));
        int[] whats = {-1, 6, 7, 15, Integer.MIN_VALUE, Integer.MAX_VALUE};
        for (int what : whats) {
            due.is("frame(1, " + what + ")", -2, x.frame(1, what));
        }
    }

    private static void aFrameGoesOnce() {
        LongTransfer x = new LongTransfer(0);
        x.send(1);
        x.send(1);
        x.tick(0);
        due.is("receive(1)", 2, x.receive(1));
        due.is("receive(1)", -3, x.receive(1));
        due.is("lose(1)", false, x.lose(1));
        due.is("lose(2)", true, x.lose(2));
        due.is("lose(2)", false, x.lose(2));
        due.is("receive(2)", -3, x.receive(2));
        due.is("ended(0)", 1, x.ended(0));
        due.framesAre(x, 2);
        due.frameIs(x, 2, 0, 2, 0, 1, 0, 0);
    }
}
