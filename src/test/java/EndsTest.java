/** Promises 23 to 25: what an END has, and what it RECEIVED. */
public final class EndsTest {
    private static final Check CHECK = new Check();

    public static void main(String[] args) {
        answers();
        comesIn();
        everyEnd();
        keepsSix();
        keepsForty();
        CHECK.finish();
    }

    private static void answers() {
        SpaceLinks x = Check.running("cable e0 e1;");
        CHECK.due("endOf(-1, 0)", -1, x.endOf(-1, 0));
        CHECK.due("endOf(8, 0)", -1, x.endOf(8, 0));
        CHECK.due("endOf(0, -1)", -1, x.endOf(0, -1));
        CHECK.due("endOf(0, 9)", -1, x.endOf(0, 9));
        for (int what = 0; what < 9; what++) {
            CHECK.due("endOf(7, " + what + ")", 0, x.endOf(7, what));
        }
        CHECK.due("packet(1, 0, 0) of none", -1, x.packet(1, 0, 0));
        CHECK.due("byteOf(1, 0, 0) of none", -1, x.byteOf(1, 0, 0));
        Check.send(x, 0, 5);
        x.tick(3);
        CHECK.due("packet(1, 0, 0)", 1, x.packet(1, 0, 0));
        CHECK.due("packet(1, 0, 1)", 1, x.packet(1, 0, 1));
        CHECK.due("packet(1, 0, 2)", 13, x.packet(1, 0, 2));
        CHECK.due("packet(1, 0, 3)", -1, x.packet(1, 0, 3));
        CHECK.due("packet(1, 0, -1)", -1, x.packet(1, 0, -1));
        CHECK.due("packet(1, 1, 0)", -1, x.packet(1, 1, 0));
        CHECK.due("packet(1, -1, 0)", -1, x.packet(1, -1, 0));
        CHECK.due("packet(8, 0, 0)", -1, x.packet(8, 0, 0));
        CHECK.due("packet(-1, 0, 0)", -1, x.packet(-1, 0, 0));
        CHECK.due("packet(0, 0, 0)", -1, x.packet(0, 0, 0));
        CHECK.due("byteOf(1, 0, 0)", 5, x.byteOf(1, 0, 0));
        CHECK.due("byteOf(1, 0, 1)", -1, x.byteOf(1, 0, 1));
        CHECK.due("byteOf(1, 0, -1)", -1, x.byteOf(1, 0, -1));
        CHECK.due("byteOf(1, 1, 0)", -1, x.byteOf(1, 1, 0));
        CHECK.due("byteOf(8, 0, 0)", -1, x.byteOf(8, 0, 0));
    }

    private static void comesIn() {
        SpaceLinks x = Check.running("cable e0 e1;");
        Check.send(x, 0, 5, 6, 7);
        CHECK.due("QUEUE", 4, x.endOf(0, 0));
        x.tick(3);
        CHECK.due("QUEUE", 1, x.endOf(0, 0));
        CHECK.due("bytes that came in", 2, x.endOf(1, 3));
        CHECK.due("RECEIVED", 0, x.endOf(1, 1));
        x.tick(2);
        CHECK.due("bytes that came in", 0, x.endOf(1, 3));
        CHECK.due("RECEIVED", 1, x.endOf(1, 1));
        CHECK.due("WHOLE ones", 1, x.endOf(1, 2));
        CHECK.due("the other END", 0, x.endOf(0, 1));
    }

    private static void everyEnd() {
        SpaceLinks x = Check.running("cable e0 0.1;cable e1 0.2;cable e2 0.3;cable e3 0.4;cable e4 0.5;cable e5 0.6;cable e6 0.7;");
        for (int e = 0; e < 7; e++) {
            int to = (e + 3) % 7;
            Check.send(x, e, to + 1, 50 + e);
        }
        x.tick(5);
        for (int e = 0; e < 7; e++) {
            CHECK.due("RECEIVED by " + e, 1, x.endOf(e, 2));
            CHECK.due("byte of " + e, 50 + (e + 4) % 7, x.byteOf(e, 0, 0));
            CHECK.due("TICK of " + e, 15, x.packet(e, 0, 2));
        }
        CHECK.due("all RECEIVED", 7, x.look(5));
        CHECK.due("all WHOLE", 7, x.look(6));
    }

    private static void keepsSix() {
        SpaceLinks x = Check.running("cable e0 e1;");
        for (int k = 1; k <= 8; k++) {
            Check.send(x, 0, k, k);
        }
        x.tick(40);
        CHECK.due("RECEIVED", 8, x.endOf(1, 1));
        for (int i = 0; i < 6; i++) {
            CHECK.due("byte of packet " + i, 8 - i, x.byteOf(1, i, 0));
            CHECK.due("bytes of packet " + i, 2, x.packet(1, i, 0));
        }
        CHECK.due("the seventh", -1, x.packet(1, 6, 0));
        CHECK.due("byte of the seventh", -1, x.byteOf(1, 6, 0));
    }

    private static void keepsForty() {
        SpaceLinks x = Check.running("cable e0 e1;");
        int[] packet = new int[60];
        for (int k = 0; k < 60; k++) {
            packet[k] = 100 + k;
        }
        Check.send(x, 0, packet);
        x.tick(50);
        CHECK.due("all are counted", 49, x.endOf(1, 3));
        x.tick(20);
        CHECK.due("bytes", 60, x.packet(1, 0, 0));
        CHECK.due("byte 0", 100, x.byteOf(1, 0, 0));
        CHECK.due("byte 39", 139, x.byteOf(1, 0, 39));
        CHECK.due("byte 40 is not kept", -1, x.byteOf(1, 0, 40));
        Check.send(x, 0, 3);
        x.tick(10);
        CHECK.due("the next one", 3, x.byteOf(1, 0, 0));
        CHECK.due("has no more", -1, x.byteOf(1, 0, 1));
        CHECK.due("the one ahead", 139, x.byteOf(1, 1, 39));
    }
}
