import java.util.ArrayList;
import java.util.Arrays;

/**
 * Long messages over short frames: each message has a sender of its own, four receivers take the
 * messages, and either side sees only the frames that reach it.
 */
public final class LongTransfer {
    private static final int UNKNOWN_NUMBER = -1;
    private static final int OUTSIDE_RANGE = -2;
    private static final int NOT_IN_THIS_STATE = -3;
    private static final int NO_ROOM = -4;

    private static final int MOST_MESSAGES = 100;
    private static final int MOST_OCTETS = 10000;
    private static final int MOST_FRAMES = 6000;
    private static final int MOST_WAITS = 100;
    private static final int MOST_ROOM = 65536;
    private static final int USUAL_ROOM = 4095;
    private static final int RECEIVERS = 4;
    private static final int HIGHEST_FLOW_NUMBER = 255;

    private static final int FRAME_OCTETS = 7;
    private static final int FIRST_OCTETS = 6;
    private static final int FIRST_OCTETS_OF_LONG = 2;
    private static final int LONG_ABOVE = 4095;
    private static final int SEQUENCES = 16;

    private static final int LONGEST_TICK = 5000;
    private static final int PATIENCE = 1000;
    private static final int ANSWER_AGAIN = 500;
    private static final int LONGEST_SEPARATION = 127;
    private static final long NEVER = 0x7fffffffffffffffL;

    private static final int SINGLE = 0;
    private static final int FIRST = 1;
    private static final int CONSECUTIVE = 2;
    private static final int FLOW = 3;

    private static final int GO_ON = 0;
    private static final int WAIT = 1;
    private static final int OVERFLOW = 2;

    private static final int SENDER_IDLE = 0;
    private static final int SENDER_WAITING = 1;
    private static final int SENDER_SENDING = 2;
    private static final int SENDER_DONE = 3;
    private static final int SENDER_ENDED = 4;

    private static final int RECEIVER_IDLE = 0;
    private static final int RECEIVER_RECEIVING = 1;
    private static final int RECEIVER_DONE = 2;
    private static final int RECEIVER_ENDED = 3;

    private static final int WHOLE = 0;
    private static final int BY_NO_FLOW = 1;
    private static final int BY_NO_FRAME = 2;
    private static final int BY_WRONG_SEQUENCE = 3;
    private static final int BY_OVERFLOW = 4;
    private static final int BY_WAITS = 5;
    private static final int BY_NEW_MESSAGE = 6;
    private static final int BY_FULL_FRAMES = 7;
    private static final int REASONS = 8;

    private static final int WHAT_KIND = 0;
    private static final int WHAT_MESSAGE = 1;
    private static final int WHAT_NUMBER = 2;
    private static final int WHAT_SIZE = 3;
    private static final int WHAT_TIME = 4;
    private static final int WHAT_SEPARATION = 5;
    private static final int WHAT_FIRST_OCTET = 8;
    private static final int WHAT_LAST_OCTET = 14;

    private static final byte[] NO_OCTETS = {};

    /** A frame as it was made; of it only whether it is still on its way changes. */
    private static final class Frame {
        final int kind;
        final int message;
        /** The length, the sequence or the flow kind, as the kind of the frame has it. */
        final int number;
        /** How many octets it has, or the block of a flow. */
        final int size;
        final int separation;
        final long time;
        final byte[] octets;
        boolean onItsWay = true;

        /** A frame of a sender. */
        Frame(int kind, int message, int number, byte[] octets, long time) {
            this.kind = kind;
            this.message = message;
            this.number = number;
            this.size = octets.length;
            this.separation = 0;
            this.time = time;
            this.octets = octets;
        }

        /** A flow frame of a receiver. */
        Frame(int message, int flowKind, int block, int separation, long time) {
            this.kind = FLOW;
            this.message = message;
            this.number = flowKind;
            this.size = block;
            this.separation = separation;
            this.time = time;
            this.octets = NO_OCTETS;
        }

        int octetAt(int i) {
            return i >= 0 && i < octets.length ? octets[i] & 0xff : 0;
        }
    }

    /** A message and what its sender knows of its way. */
    private static final class Sender {
        final int message;
        final byte[] octets;
        int state = SENDER_IDLE;
        int framed;
        int sequence = 1;
        int waits;
        /** How many frames are left of the block; 0 for a block without end. */
        int blockLeft;
        int separation;
        /** When the next frame is due or the patience is over, whichever the state looks at. */
        long wakeAt = NEVER;

        Sender(int message, byte[] octets) {
            this.message = message;
            this.octets = octets;
        }

        boolean isAllFramed() {
            return framed >= octets.length;
        }

        void awaitFlow(long now) {
            state = SENDER_WAITING;
            wakeAt = now + PATIENCE;
        }

        void goOn(int block, int ticks, long now) {
            state = SENDER_SENDING;
            blockLeft = block;
            separation = ticks;
            wakeAt = now;
        }

        void rest(int restState) {
            state = restState;
            wakeAt = NEVER;
        }

        byte[] cutNext(int most) {
            int from = Math.min(framed, octets.length);
            int to = Math.min(from + most, octets.length);
            framed = to;
            return Arrays.copyOfRange(octets, from, to);
        }
    }

    /** One of the receivers, and what it has of the message that it is receiving. */
    private static final class Receiver {
        int state = RECEIVER_IDLE;
        int message;
        byte[] octets = NO_OCTETS;
        int have;
        int sequence;
        /** The block of the last answer to go on, and how many frames have come since. */
        int block;
        int come;
        long answerAt = NEVER;
        long giveUpAt = NEVER;

        boolean isWhole() {
            return have >= octets.length;
        }

        boolean isReceiving(int number) {
            return state == RECEIVER_RECEIVING && message == number;
        }

        long wakeAt() {
            return Math.min(answerAt, giveUpAt);
        }

        void begin(int number, int length) {
            state = RECEIVER_RECEIVING;
            message = number;
            octets = length > 0 && length <= MOST_OCTETS ? new byte[length] : NO_OCTETS;
            have = 0;
            sequence = 1;
            block = 0;
            come = 0;
        }

        void take(byte[] part, long now) {
            int count = Math.min(part.length, octets.length - have);
            if (count > 0) {
                System.arraycopy(part, 0, octets, have, count);
                have += count;
            }
            answerAt = NEVER;
            giveUpAt = now + PATIENCE;
        }

        void rest(int restState) {
            state = restState;
            answerAt = NEVER;
            giveUpAt = NEVER;
        }
    }

    private final int room;
    private final ArrayList<Sender> senders = new ArrayList<>();
    private final ArrayList<Frame> frames = new ArrayList<>();
    private final Receiver[] receivers = new Receiver[RECEIVERS];
    /** How many messages became whole, then how many sides were ended by each reason. */
    private final int[] counts = new int[REASONS];
    private int endings;
    private byte[] gotOctets = NO_OCTETS;
    private long now;
    private int started;
    private int answerKind = GO_ON;
    private int answerBlock;
    private int answerSeparation;
    private int waitLimit = 3;
    private boolean onlySingle;

    public LongTransfer(int room) {
        this.room = room >= 0 && room <= MOST_ROOM ? room : USUAL_ROOM;
        for (int i = 0; i < receivers.length; i++) {
            receivers[i] = new Receiver();
        }
    }

    public int send(int n) {
        if (n < 0 || n > MOST_OCTETS) {
            return OUTSIDE_RANGE;
        }
        if (senders.size() >= MOST_MESSAGES) {
            return NO_ROOM;
        }
        if (n == 0 || (onlySingle && n > FRAME_OCTETS)) {
            return 0;
        }
        int number = senders.size() + 1;
        senders.add(new Sender(number, new byte[n]));
        return number;
    }

    public void octet(int message, int i, byte b) {
        Sender s = findSender(message);
        if (s != null && i >= 0 && i < s.octets.length) {
            s.octets[i] = b;
        }
    }

    public int frame(int i, int what) {
        if (i == 0 && what == 0) {
            return frames.size();
        }
        Frame f = findFrame(i);
        if (f == null) {
            return UNKNOWN_NUMBER;
        }
        if (what >= WHAT_FIRST_OCTET && what <= WHAT_LAST_OCTET) {
            return f.octetAt(what - WHAT_FIRST_OCTET);
        }
        switch (what) {
            case WHAT_KIND:
                return f.kind;
            case WHAT_MESSAGE:
                return f.message;
            case WHAT_NUMBER:
                return f.number;
            case WHAT_SIZE:
                return f.size;
            case WHAT_TIME:
                return (int) f.time;
            case WHAT_SEPARATION:
                return f.separation;
            default:
                return OUTSIDE_RANGE;
        }
    }

    public int receive(int frame) {
        Frame f = findFrame(frame);
        if (f == null) {
            return UNKNOWN_NUMBER;
        }
        if (!f.onItsWay) {
            return NOT_IN_THIS_STATE;
        }
        f.onItsWay = false;
        return f.kind == FLOW ? reachSender(f) : reachReceiver(f);
    }

    public boolean lose(int frame) {
        Frame f = findFrame(frame);
        if (f == null || !f.onItsWay) {
            return false;
        }
        f.onItsWay = false;
        return true;
    }

    public int flow(int block, int separation, int kind) {
        if (!isFlowNumber(block) || !isFlowNumber(separation) || kind < GO_ON || kind > OVERFLOW) {
            return OUTSIDE_RANGE;
        }
        answerBlock = block;
        answerSeparation = separation;
        answerKind = kind;
        return 1;
    }

    public int tick(long t) {
        if (t < now || t - now > LONGEST_TICK) {
            return OUTSIDE_RANGE;
        }
        int before = endings;
        startMessages();
        passTimeTo(t);
        return endings - before;
    }

    public byte got(int i) throws ArrayIndexOutOfBoundsException {
        if (i < 0 || i >= gotOctets.length) {
            throw new ArrayIndexOutOfBoundsException("no such octet was got");
        }
        return gotOctets[i];
    }

    public int length() {
        return gotOctets.length;
    }

    public int ended(int what) {
        return what >= 0 && what < counts.length ? counts[what] : OUTSIDE_RANGE;
    }

    public int wait2(int n) {
        if (n < 0 || n > MOST_WAITS) {
            return OUTSIDE_RANGE;
        }
        int before = waitLimit;
        waitLimit = n;
        return before;
    }

    public int functional(boolean on) {
        onlySingle = on;
        return senders.size();
    }

    private Sender findSender(int message) {
        return message >= 1 && message <= senders.size() ? senders.get(message - 1) : null;
    }

    private Frame findFrame(int number) {
        return number >= 1 && number <= frames.size() ? frames.get(number - 1) : null;
    }

    private Receiver receiverOf(int message) {
        return receivers[Math.floorMod(message, RECEIVERS)];
    }

    private static boolean isFlowNumber(int n) {
        return n >= 0 && n <= HIGHEST_FLOW_NUMBER;
    }

    private boolean areFramesFull() {
        return frames.size() >= MOST_FRAMES;
    }

    private void count(int what) {
        if (what >= 0 && what < counts.length) {
            counts[what]++;
        }
    }

    private void endSender(Sender s, int reason) {
        s.rest(SENDER_ENDED);
        endings++;
        count(reason);
    }

    private void endReceiver(Receiver r, int reason) {
        r.rest(RECEIVER_ENDED);
        endings++;
        count(reason);
    }

    private void startMessages() {
        for (; started < senders.size(); started++) {
            startMessage(senders.get(started));
        }
    }

    private void startMessage(Sender s) {
        int length = s.octets.length;
        if (length <= FRAME_OCTETS) {
            if (makeDataFrame(s, SINGLE, 0, FRAME_OCTETS)) {
                s.rest(SENDER_DONE);
            }
            return;
        }
        int most = length > LONG_ABOVE ? FIRST_OCTETS_OF_LONG : FIRST_OCTETS;
        if (makeDataFrame(s, FIRST, length, most)) {
            s.awaitFlow(now);
        }
    }

    /** Whether a frame could be made; if not, the sender is ended. */
    private boolean makeDataFrame(Sender s, int kind, int number, int most) {
        if (areFramesFull()) {
            endSender(s, BY_FULL_FRAMES);
            return false;
        }
        frames.add(new Frame(kind, s.message, number, s.cutNext(most), now));
        return true;
    }

    /** Whether a frame could be made; if not, the receiver is ended. */
    private boolean makeFlowFrame(Receiver r, int message, int kind, int block, int separation) {
        if (areFramesFull()) {
            endReceiver(r, BY_FULL_FRAMES);
            return false;
        }
        frames.add(new Frame(message, kind, block, separation, now));
        return true;
    }

    /** Each turn acts at one time and leaves nothing to do at it, so there are no more turns than times. */
    private void passTimeTo(long t) {
        long at = nextTime();
        for (int turn = 0; turn <= LONGEST_TICK && at <= t; turn++) {
            now = at;
            for (int i = 0; i < senders.size(); i++) {
                actSender(senders.get(i));
            }
            for (int i = 1; i <= RECEIVERS; i++) {
                actReceiver(receiverOf(i));
            }
            at = nextTime();
        }
        now = t;
    }

    private long nextTime() {
        long at = NEVER;
        for (int i = 0; i < senders.size(); i++) {
            at = Math.min(at, senders.get(i).wakeAt);
        }
        for (int i = 0; i < receivers.length; i++) {
            at = Math.min(at, receivers[i].wakeAt());
        }
        return at;
    }

    /** With a separation of 0 the same sender goes on at the same time, before the next sender's turn. */
    private void actSender(Sender s) {
        for (int turn = 0; turn <= MOST_FRAMES && s.wakeAt <= now; turn++) {
            if (s.state == SENDER_SENDING) {
                sendNext(s);
            } else {
                endSender(s, BY_NO_FLOW);
            }
        }
    }

    private void sendNext(Sender s) {
        if (!makeDataFrame(s, CONSECUTIVE, s.sequence, FRAME_OCTETS)) {
            return;
        }
        s.sequence = (s.sequence + 1) % SEQUENCES;
        if (s.isAllFramed()) {
            s.rest(SENDER_DONE);
        } else if (s.blockLeft == 1) {
            s.awaitFlow(now);
        } else {
            s.blockLeft = Math.max(0, s.blockLeft - 1);
            s.wakeAt = now + s.separation;
        }
    }

    private void actReceiver(Receiver r) {
        if (r.answerAt <= now) {
            answer(r);
        }
        if (r.giveUpAt <= now) {
            endReceiver(r, BY_NO_FRAME);
        }
    }

    private int reachSender(Frame f) {
        Sender s = findSender(f.message);
        if (s == null) {
            return UNKNOWN_NUMBER;
        }
        if (s.state == SENDER_WAITING) {
            takeFlow(s, f);
        }
        return s.state;
    }

    private void takeFlow(Sender s, Frame f) {
        switch (f.number) {
            case GO_ON:
                s.goOn(f.size, ticksOf(f.separation), now);
                break;
            case WAIT:
                takeWait(s);
                break;
            default:
                endSender(s, BY_OVERFLOW);
                break;
        }
    }

    private void takeWait(Sender s) {
        s.waits++;
        if (s.waits > waitLimit) {
            endSender(s, BY_WAITS);
        } else {
            s.awaitFlow(now);
        }
    }

    private static int ticksOf(int separation) {
        if (separation >= 0 && separation <= LONGEST_SEPARATION) {
            return separation;
        }
        return separation >= 241 && separation <= 249 ? 1 : LONGEST_SEPARATION;
    }

    private int reachReceiver(Frame f) {
        Receiver r = receiverOf(f.message);
        if (f.kind == CONSECUTIVE) {
            // One of another message must leave this one's times alone: it does nothing at all.
            if (r.isReceiving(f.message)) {
                takeConsecutive(r, f);
            }
            return r.state;
        }
        if (r.state == RECEIVER_RECEIVING) {
            endReceiver(r, BY_NEW_MESSAGE);
        }
        if (f.kind == SINGLE) {
            becomeWhole(r, f.octets);
        } else {
            takeFirst(r, f);
        }
        return r.state;
    }

    private void takeFirst(Receiver r, Frame f) {
        if (f.number > room) {
            if (makeFlowFrame(r, f.message, OVERFLOW, 0, 0)) {
                endReceiver(r, BY_OVERFLOW);
            }
            return;
        }
        r.begin(f.message, f.number);
        r.take(f.octets, now);
        answer(r);
    }

    private void takeConsecutive(Receiver r, Frame f) {
        if (f.number != r.sequence) {
            endReceiver(r, BY_WRONG_SEQUENCE);
            return;
        }
        r.sequence = (r.sequence + 1) % SEQUENCES;
        r.take(f.octets, now);
        if (r.isWhole()) {
            becomeWhole(r, r.octets);
            return;
        }
        r.come++;
        if (r.block != 0 && r.come == r.block) {
            answer(r);
        }
    }

    private void becomeWhole(Receiver r, byte[] octets) {
        gotOctets = octets;
        count(WHOLE);
        r.rest(RECEIVER_DONE);
    }

    private void answer(Receiver r) {
        if (!makeFlowFrame(r, r.message, answerKind, answerBlock, answerSeparation)) {
            return;
        }
        if (answerKind == OVERFLOW) {
            endReceiver(r, BY_OVERFLOW);
            return;
        }
        r.giveUpAt = now + PATIENCE;
        if (answerKind == WAIT) {
            r.answerAt = now + ANSWER_AGAIN;
        } else {
            r.answerAt = NEVER;
            r.block = answerBlock;
            r.come = 0;
        }
    }
}
