/** Promises 12 to 14: THE TAPE is fed, cut short and sent. */
public final class TapeTest {
    private static final Check CHECK = new Check();

    public static void main(String[] args) {
        feedAndEnd();
        send();
        bytesAsFed();
        queueIsFull();
        CHECK.finish();
    }

    private static void feedAndEnd() {
        SpaceLinks x = new SpaceLinks();
        CHECK.due("end(-1)", false, x.end(-1));
        CHECK.due("end(1) of none", false, x.end(1));
        CHECK.due("end(0) of none", true, x.end(0));
        for (int k = 1; k <= 20; k++) {
            CHECK.due("feed " + k, 20 * k, x.feed(0, 0, 0, 0, 0));
        }
        CHECK.due("feed beyond 400", -1, x.feed(0, 0, 0, 0, 0));
        CHECK.due("THE TAPE", 400, x.look(14));
        CHECK.due("end(401)", false, x.end(401));
        CHECK.due("end(400)", true, x.end(400));
        CHECK.due("end(381)", true, x.end(381));
        CHECK.due("feed: 401 would be too many", -1, x.feed(0, 0, 0, 0, 0));
        CHECK.due("THE TAPE", 381, x.look(14));
        CHECK.due("end(382)", false, x.end(382));
        CHECK.due("end(380)", true, x.end(380));
        CHECK.due("feed: 400 are not", 400, x.feed(0, 0, 0, 0, 0));
        CHECK.due("end(MIN)", false, x.end(Integer.MIN_VALUE));
        CHECK.due("end(0)", true, x.end(0));
        CHECK.due("THE TAPE", 0, x.look(14));
    }

    private static void send() {
        SpaceLinks x = new SpaceLinks();
        CHECK.due("send(0) of none", -1, x.send(0));
        Check.tape(x, 1, 2, 3);
        CHECK.due("send(8)", -1, x.send(8));
        CHECK.due("THE TAPE is empty then", 0, x.look(14));
        Check.tape(x, 1, 2, 3);
        CHECK.due("send(-1)", -1, x.send(-1));
        Check.tape(x, 1, 2, 3);
        CHECK.due("send(7)", 4, x.send(7));
        CHECK.due("THE TAPE is empty then", 0, x.look(14));
        CHECK.due("send(7) of none", -1, x.send(7));
        CHECK.due("QUEUE", 4, x.endOf(7, 0));
        CHECK.due("QUEUE of another", 0, x.endOf(6, 0));
        CHECK.due("send(7) more", 6, Check.send(x, 7, 9));
    }

    private static void bytesAsFed() {
        SpaceLinks x = Check.running("cable e0 e1;");
        x.feed(0x01020304, 0xFFFEFDFC, 0x00800081, 0x7F7E7D7C, 0x0A0B0C0D);
        x.send(0);
        x.tick(30);
        int[] due = {1, 2, 3, 4, 255, 254, 253, 252, 0, 128, 0, 129, 127, 126, 125, 124, 10, 11, 12, 13};
        CHECK.due("bytes", 20, x.packet(1, 0, 0));
        for (int k = 0; k < 20; k++) {
            CHECK.due("byte " + k, due[k], x.byteOf(1, 0, k));
        }
    }

    private static void queueIsFull() {
        SpaceLinks x = new SpaceLinks();
        CHECK.due("120 with the MARK are too many by one", -1, Check.send(x, 0, new int[120]));
        CHECK.due("THE TAPE is empty then", 0, x.look(14));
        CHECK.due("QUEUE", 0, x.endOf(0, 0));
        CHECK.due("119 and the MARK", 120, Check.send(x, 0, new int[119]));
        CHECK.due("no room", -1, Check.send(x, 0, 1));
        CHECK.due("QUEUE", 120, x.endOf(0, 0));
        CHECK.due("100 and the MARK", 101, Check.send(x, 1, new int[100]));
        CHECK.due("19 and the MARK", -1, Check.send(x, 1, new int[19]));
        CHECK.due("18 and the MARK", 120, Check.send(x, 1, new int[18]));

        // A QUEUE is used again, round and round.
        x.plug(33, 34);
        x.tick(100);
        CHECK.due("QUEUE as it is sent", 29, x.endOf(1, 0));
        CHECK.due("90 and the MARK", 120, Check.send(x, 1, new int[90]));
        x.tick(100);
        x.tick(100);
        CHECK.due("three came", 3, x.endOf(2, 2));
        CHECK.due("the latest", 90, x.packet(2, 0, 0));
        CHECK.due("the one ahead", 18, x.packet(2, 1, 0));
        CHECK.due("the first", 100, x.packet(2, 2, 0));
    }
}
