import java.util.Random;

/** All promises: random runs of at most 512 calls, each answer beside the slow model's. */
final class ModelTest {
    private static final int RUNS = 1500;
    private static final Due due = new Due("ModelTest");
    private static final int[] ODD = {-1, 0, 1, 7, 8, 100, 10001, Integer.MIN_VALUE, Integer.MAX_VALUE};
    private static final int[] SHORT = {1, 6, 7, 8, 9, 13, 14, 20, 21, 40};
    private static final int[] LONG = {100, 130, 300, 1000, 4095, 4096, 9999, 10000};
    private static final int[] BLOCKS = {0, 0, 1, 2, 3, 16, 17, 255};
    private static final int[] SEPARATIONS = {0, 0, 1, 2, 10, 126, 127, 128, 240, 241, 249, 250, 255};
    private static final int[] STEPS = {0, 0, 0, 1, 2, 5, 10, 127, 250, 499, 500, 501, 999, 1000, 1001, 5000};
    private static final int[] ROOMS = {0, 8, 20, 100, 4095, 4096, 10000, 65536, 65537, -1};

    private final Random random;
    private final LongTransfer x;
    private final SlowModel model;
    private final String run;
    /** Whether the run is to fill all 6000 frames. */
    private final boolean flood;
    private final int longOfTen;
    private final int lossOfHundred;
    private final int oddOfHundred;
    private long time;
    private int carried;
    private static final int[] reached = new int[8];
    private static int fullRuns;

    private ModelTest(int seed) {
        random = new Random(seed);
        flood = seed % 8 == 0;
        int room = !flood && random.nextInt(3) == 0 ? pick(ROOMS) : 9999 + random.nextInt(2);
        x = new LongTransfer(room);
        model = new SlowModel(room);
        run = "run " + seed + ": ";
        longOfTen = flood ? 8 : random.nextInt(3) == 0 ? 5 : 1;
        lossOfHundred = random.nextInt(2) * 3;
        oddOfHundred = random.nextInt(2) * 8;
    }

    public static void main(String[] args) {
        for (int seed = 1; seed <= RUNS; seed++) {
            ModelTest test = new ModelTest(seed);
            for (int call = 0; call < 512; call++) {
                test.oneCall();
            }
            test.lookAtAll();
        }
        for (int what = 0; what < 8; what++) {
            due.is("runs in which " + what + " was counted are enough", true, reached[what] >= 20);
        }
        due.is("runs with 6000 frames are enough", true, fullRuns >= 20);
        due.finish();
    }

    private int pick(int[] from) {
        return from[random.nextInt(from.length)];
    }

    private boolean isOdd() {
        return random.nextInt(100) < oddOfHundred;
    }

    private void oneCall() {
        int choice = random.nextInt(100);
        if (choice < 8) {
            send();
        } else if (choice < 14) {
            octet();
        } else if (choice < 64) {
            carry();
        } else if (choice < 68) {
            flow();
        } else if (choice < 84) {
            tick();
        } else if (choice < 98) {
            look();
        } else {
            set();
        }
    }

    private void send() {
        int n = isOdd() ? pick(ODD) : random.nextInt(10) < longOfTen ? pick(LONG) : pick(SHORT);
        due.is(run + "send(" + n + ")", model.send(n), x.send(n));
    }

    private void octet() {
        int message = isOdd() ? pick(ODD) : random.nextInt(model.messages.size() + 1);
        int i = isOdd() ? pick(ODD) : random.nextInt(random.nextBoolean() ? 30 : 10000);
        byte b = (byte) random.nextInt(256);
        model.octet(message, i, b);
        x.octet(message, i, b);
    }

    /** Frames go mostly in order, sometimes out of it, sometimes not at all. */
    private void carry() {
        int frame = carried + 1;
        int choice = random.nextInt(100);
        if (flood && choice >= 30) {
            frame = waitingFrameThatIsAnswered();
        } else if (choice < 3) {
            frame = 1 + random.nextInt(model.frames.size() + 1);
        } else if (choice < 6) {
            frame = carried + random.nextInt(4);
        } else if (choice < 8 && model.frames.size() > carried + 20) {
            loseSixteen();
            return;
        } else if (choice < 10 && longOfTen > 1) {
            carried = Math.max(carried, model.frames.size() - 3);
        } else if (isOdd()) {
            frame = pick(ODD);
        }
        if (frame == carried + 1 && carried < model.frames.size()) {
            carried++;
        }
        if (random.nextInt(100) < lossOfHundred) {
            due.is(run + "lose(" + frame + ")", model.lose(frame), x.lose(frame));
        } else {
            due.is(run + "receive(" + frame + ")", model.receive(frame), x.receive(frame));
        }
    }

    /** A first or flow frame on its way, since a long message goes on only by those. */
    private int waitingFrameThatIsAnswered() {
        int found = carried + 1;
        for (int i = 1; i <= model.frames.size(); i++) {
            SlowModel.Frame f = model.frames.get(i - 1);
            if (!f.gone && f.kind % 2 == 1 && (found == carried + 1 || random.nextInt(3) == 0)) {
                found = i;
            }
        }
        return found;
    }

    private void loseSixteen() {
        for (int k = 0; k < 16; k++) {
            carried++;
            due.is(run + "lose(" + carried + ")", model.lose(carried), x.lose(carried));
        }
    }

    private void flow() {
        int block = isOdd() ? pick(ODD) : flood ? 0 : pick(BLOCKS);
        int separation = isOdd() ? pick(ODD) : flood ? random.nextInt(2) : pick(SEPARATIONS);
        int dice = random.nextInt(10);
        int kind = isOdd() ? pick(ODD) : dice < 6 ? 0 : dice < 9 ? 1 : 2;
        due.is(run + "flow(" + block + ", " + separation + ", " + kind + ")",
            model.flow(block, separation, kind), x.flow(block, separation, kind));
    }

    private void tick() {
        long t = time + (random.nextInt(3) == 0 ? pick(STEPS) : random.nextInt(4));
        if (isOdd()) {
            long[] odd = {time - 1, time + 5001, -1, Long.MIN_VALUE, Long.MAX_VALUE};
            t = odd[random.nextInt(odd.length)];
        }
        int want = model.tick(t);
        due.is(run + "tick(" + t + ")", want, x.tick(t));
        if (want >= 0) {
            time = t;
        }
    }

    private void look() {
        int count = model.frames.size();
        switch (random.nextInt(5)) {
            case 0 -> lookAtFrame(isOdd() ? pick(ODD) : random.nextInt(count + 2), random.nextInt(18) - 1);
            case 1 -> lookAtFrame(0, 0);
            case 2 -> lookAtGot(isOdd() ? pick(ODD) : random.nextInt(model.length() + 2) - 1);
            case 3 -> due.is(run + "length()", model.length(), x.length());
            default -> lookAtCount(isOdd() ? pick(ODD) : random.nextInt(8));
        }
    }

    private void set() {
        if (random.nextBoolean()) {
            int n = isOdd() ? pick(ODD) : random.nextInt(5);
            due.is(run + "wait2(" + n + ")", model.wait2(n), x.wait2(n));
        } else {
            boolean on = random.nextInt(4) == 0;
            due.is(run + "functional(" + on + ")", model.functional(on), x.functional(on));
        }
    }

    private void lookAtFrame(int i, int what) {
        due.is(run + "frame(" + i + ", " + what + ")", model.frame(i, what), x.frame(i, what));
    }

    private void lookAtCount(int what) {
        due.is(run + "ended(" + what + ")", model.ended(what), x.ended(what));
    }

    private void lookAtGot(int i) {
        if (i < 0 || i >= model.length()) {
            due.gotThrows(x, i);
        } else {
            due.is(run + "got(" + i + ")", model.got(i), x.got(i));
        }
    }

    private void lookAtAll() {
        lookAtFrame(0, 0);
        for (int i = 1; i <= model.frames.size(); i++) {
            for (int what = 0; what <= 15; what++) {
                lookAtFrame(i, what);
            }
        }
        due.is(run + "length()", model.length(), x.length());
        for (int i = -1; i <= model.length(); i++) {
            lookAtGot(i);
        }
        for (int what = 0; what < 8; what++) {
            lookAtCount(what);
            reached[what] += model.ended(what) > 0 ? 1 : 0;
        }
        fullRuns += model.frames.size() == 6000 ? 1 : 0;
    }
}
