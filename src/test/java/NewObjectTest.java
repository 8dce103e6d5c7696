/** Promise 1: the constructor. */
final class NewObjectTest {
    private static final Due due = new Due("NewObjectTest");

    public static void main(String[] args) {
        aNewObjectIsEmpty();
        theRoomIsTaken(0, 0);
        theRoomIsTaken(8, 8);
        theRoomIsTaken(30, 30);
        theRoomIsTaken(4094, 4094);
        theRoomIsTaken(4095, 4095);
        theRoomIsTaken(4096, 4096);
        theRoomIsTaken(9999, 9999);
        theRoomIsTaken(65536, 10000);
        theRoomIsTaken(65537, 4095);
        theRoomIsTaken(-1, 4095);
        theRoomIsTaken(Integer.MIN_VALUE, 4095);
        theRoomIsTaken(Integer.MAX_VALUE, 4095);
        aSingleFrameNeedsNoRoom();
        objectsAreApart();
        due.finish();
    }

    private static void aNewObjectIsEmpty() {
        LongTransfer x = new LongTransfer(100);
        due.framesAre(x, 0);
        due.is("length()", 0, x.length());
        due.gotThrows(x, 0);
        due.countsAre(x, 0, 0, 0, 0, 0, 0, 0, 0);
        due.is("functional(false)", 0, x.functional(false));
        due.is("wait2(3)", 3, x.wait2(3));
        due.is("tick(0)", 0, x.tick(0));
        due.framesAre(x, 0);
    }

    /** A message as long as the room is taken, one octet more is an overflow. */
    private static void theRoomIsTaken(int room, int longest) {
        String name = "room " + room + ": receive of ";
        LongTransfer x = new LongTransfer(room);
        if (longest > 7) {
            int fits = x.send(longest);
            x.tick(0);
            due.is(name + longest, 1, x.receive(fits));
            due.frameIs(x, 2, 3, 1, 0, 0, 0, 0);
        }
        int next = x.frame(0, 0) + 1;
        int tooLong = Math.max(8, longest + 1);
        if (tooLong <= 10000) {
            int m = x.send(tooLong);
            x.tick(0);
            due.is(name + tooLong, 3, x.receive(next));
            due.frameIs(x, next + 1, 3, m, 2, 0, 0, 0);
            due.is("ended(4)", 1, x.ended(4));
        }
    }

    private static void aSingleFrameNeedsNoRoom() {
        LongTransfer x = new LongTransfer(0);
        x.send(7);
        x.tick(0);
        due.is("receive(1)", 2, x.receive(1));
        due.is("length()", 7, x.length());
    }

    private static void objectsAreApart() {
        LongTransfer x = new LongTransfer(10);
        LongTransfer y = new LongTransfer(20);
        x.send(15);
        y.send(15);
        x.tick(3);
        y.tick(4);
        due.is("x.receive(1)", 3, x.receive(1));
        due.is("y.receive(1)", 1, y.receive(1));
        due.is("x.tick(2)", -2, x.tick(2));
        due.is("x.tick(3)", 0, x.tick(3));
    }
}
