import java.util.ArrayList;
import java.util.List;

/**
 * The document once more, told in another way: time goes tick by tick, every side looks at each tick
 * whether it has something to do, and times are counted from when they began.
 */
final class SlowModel {
    static final class Frame {
        int kind;
        int message;
        int number;
        int block;
        int separation;
        long made;
        List<Byte> octets = new ArrayList<>();
        boolean gone;
    }

    static final class Message {
        byte[] octets;
        String state = "IDLE";
        int cut;
        int consecutives;
        int waits;
        int block;
        int sentOfBlock;
        int separation;
        long due;
        long began;
    }

    static final class Receiver {
        String state = "IDLE";
        int message;
        int length;
        List<Byte> octets = new ArrayList<>();
        int consecutives;
        int block;
        int sinceGoOn;
        boolean waitsToAnswer;
        long began;
    }

    private static final List<String> SENDER_STATES = List.of("IDLE", "WAITING", "SENDING", "DONE", "ENDED");
    private static final List<String> RECEIVER_STATES = List.of("IDLE", "RECEIVING", "DONE", "ENDED");

    final List<Frame> frames = new ArrayList<>();
    final List<Message> messages = new ArrayList<>();
    final Receiver[] receivers = {new Receiver(), new Receiver(), new Receiver(), new Receiver()};
    final int[] counts = new int[8];
    private final int room;
    private List<Byte> got = List.of();
    private long time;
    private int[] setFlow = {0, 0, 0};
    private int limit = 3;
    private boolean functional;

    SlowModel(int room) {
        this.room = room < 0 || room > 65536 ? 4095 : room;
    }

    int send(int n) {
        if (n < 0 || n > 10000) {
            return -2;
        }
        if (messages.size() == 100) {
            return -4;
        }
        if (n == 0 || functional && n > 7) {
            return 0;
        }
        Message m = new Message();
        m.octets = new byte[n];
        messages.add(m);
        return messages.size();
    }

    void octet(int message, int i, byte b) {
        if (message > 0 && message <= messages.size()) {
            byte[] octets = messages.get(message - 1).octets;
            if (i >= 0 && i < octets.length) {
                octets[i] = b;
            }
        }
    }

    int frame(int i, int what) {
        if (i == 0 && what == 0) {
            return frames.size();
        }
        if (i < 1 || i > frames.size()) {
            return -1;
        }
        Frame f = frames.get(i - 1);
        int[] plain = {f.kind, f.message, f.number, f.kind == 3 ? f.block : f.octets.size(), (int) f.made, f.separation};
        if (what >= 0 && what <= 5) {
            return plain[what];
        }
        if (what < 8 || what > 14) {
            return -2;
        }
        return what - 8 < f.octets.size() ? f.octets.get(what - 8) & 255 : 0;
    }

    int receive(int i) {
        if (i < 1 || i > frames.size()) {
            return -1;
        }
        Frame f = frames.get(i - 1);
        if (f.gone) {
            return -3;
        }
        f.gone = true;
        Message m = messages.get(f.message - 1);
        Receiver r = receivers[f.message % 4];
        switch (f.kind) {
            case 0 -> single(r, f);
            case 1 -> first(r, f);
            case 2 -> consecutive(r, f);
            default -> flowReaches(m, f);
        }
        return f.kind == 3 ? SENDER_STATES.indexOf(m.state) : RECEIVER_STATES.indexOf(r.state);
    }

    boolean lose(int i) {
        if (i < 1 || i > frames.size() || frames.get(i - 1).gone) {
            return false;
        }
        frames.get(i - 1).gone = true;
        return true;
    }

    int flow(int block, int separation, int kind) {
        if (block < 0 || block > 255 || separation < 0 || separation > 255 || kind < 0 || kind > 2) {
            return -2;
        }
        setFlow = new int[] {kind, block, separation};
        return 1;
    }

    int tick(long t) {
        if (t < time || t > time + 5000) {
            return -2;
        }
        int before = endedSides();
        for (int m = 1; m <= messages.size(); m++) {
            if (messages.get(m - 1).state.equals("IDLE")) {
                begin(m);
            }
        }
        liveOneTick();
        while (time < t) {
            time++;
            liveOneTick();
        }
        return endedSides() - before;
    }

    byte got(int i) {
        if (i < 0 || i >= got.size()) {
            throw new ArrayIndexOutOfBoundsException();
        }
        return got.get(i);
    }

    int length() {
        return got.size();
    }

    int ended(int what) {
        return what < 0 || what > 7 ? -2 : counts[what];
    }

    int wait2(int n) {
        if (n < 0 || n > 100) {
            return -2;
        }
        int before = limit;
        limit = n;
        return before;
    }

    int functional(boolean on) {
        functional = on;
        return messages.size();
    }

    private int endedSides() {
        int sum = 0;
        for (int reason = 1; reason <= 7; reason++) {
            sum += counts[reason];
        }
        return sum;
    }

    private void end(Message m, int reason) {
        m.state = "ENDED";
        counts[reason]++;
    }

    private void end(Receiver r, int reason) {
        r.state = "ENDED";
        counts[reason]++;
    }

    private Frame make(int kind, int message, int number) {
        Frame f = new Frame();
        f.kind = kind;
        f.message = message;
        f.number = number;
        f.made = time;
        frames.add(f);
        return f;
    }

    private void cut(Message m, Frame f, int most) {
        for (int k = 0; k < most && m.cut < m.octets.length; k++) {
            f.octets.add(m.octets[m.cut++]);
        }
    }

    private void begin(int number) {
        Message m = messages.get(number - 1);
        int n = m.octets.length;
        if (frames.size() == 6000) {
            end(m, 7);
        } else if (n <= 7) {
            cut(m, make(0, number, 0), 7);
            m.state = "DONE";
        } else {
            cut(m, make(1, number, n), n <= 4095 ? 6 : 2);
            m.state = "WAITING";
            m.began = time;
        }
    }

    private void liveOneTick() {
        for (int number = 1; number <= messages.size(); number++) {
            Message m = messages.get(number - 1);
            while (m.state.equals("SENDING") && m.due == time) {
                makeConsecutive(number, m);
            }
            if (m.state.equals("WAITING") && time - m.began == 1000) {
                end(m, 1);
            }
        }
        for (int r : new int[] {1, 2, 3, 0}) {
            Receiver receiver = receivers[r];
            if (receiver.state.equals("RECEIVING") && receiver.waitsToAnswer && time - receiver.began == 500) {
                answer(receiver);
            }
            if (receiver.state.equals("RECEIVING") && time - receiver.began == 1000) {
                end(receiver, 2);
            }
        }
    }

    private void makeConsecutive(int number, Message m) {
        if (frames.size() == 6000) {
            end(m, 7);
            return;
        }
        m.consecutives++;
        m.sentOfBlock++;
        cut(m, make(2, number, m.consecutives % 16), 7);
        if (m.cut == m.octets.length) {
            m.state = "DONE";
        } else if (m.sentOfBlock == m.block) {
            m.state = "WAITING";
            m.began = time;
        } else {
            m.due = time + m.separation;
        }
    }

    private void flowReaches(Message m, Frame f) {
        if (!m.state.equals("WAITING")) {
            return;
        }
        if (f.number == 0) {
            m.state = "SENDING";
            m.block = f.block;
            m.sentOfBlock = 0;
            m.separation = f.separation < 128 ? f.separation : f.separation > 240 && f.separation < 250 ? 1 : 127;
            m.due = time;
        } else if (f.number == 1) {
            m.waits++;
            m.began = time;
            if (m.waits > limit) {
                end(m, 5);
            }
        } else {
            end(m, 4);
        }
    }

    private void single(Receiver r, Frame f) {
        if (r.state.equals("RECEIVING")) {
            end(r, 6);
        }
        r.state = "DONE";
        got = f.octets;
        counts[0]++;
    }

    private void first(Receiver r, Frame f) {
        if (r.state.equals("RECEIVING")) {
            end(r, 6);
        }
        if (f.number > room) {
            if (frames.size() == 6000) {
                end(r, 7);
            } else {
                make(3, f.message, 2);
                end(r, 4);
            }
            return;
        }
        r.state = "RECEIVING";
        r.message = f.message;
        r.length = f.number;
        r.octets = new ArrayList<>(f.octets);
        r.consecutives = 0;
        r.began = time;
        answer(r);
    }

    private void consecutive(Receiver r, Frame f) {
        if (!r.state.equals("RECEIVING") || r.message != f.message) {
            return;
        }
        r.consecutives++;
        r.began = time;
        r.waitsToAnswer = false;
        if (f.number != r.consecutives % 16) {
            end(r, 3);
            return;
        }
        r.octets.addAll(f.octets);
        r.sinceGoOn++;
        if (r.octets.size() == r.length) {
            r.state = "DONE";
            got = r.octets;
            counts[0]++;
        } else if (r.sinceGoOn == r.block) {
            answer(r);
        }
    }

    private void answer(Receiver r) {
        if (frames.size() == 6000) {
            end(r, 7);
            return;
        }
        Frame f = make(3, r.message, setFlow[0]);
        f.block = setFlow[1];
        f.separation = setFlow[2];
        r.began = time;
        r.waitsToAnswer = setFlow[0] == 1;
        if (setFlow[0] == 0) {
            r.block = setFlow[1];
            r.sinceGoOn = 0;
        } else if (setFlow[0] == 2) {
            end(r, 4);
        }
    }
}
