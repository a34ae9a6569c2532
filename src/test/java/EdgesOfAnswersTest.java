/** Promises 18 to 33, sentence by sentence: what is asked too low, too high, of none, or of what is not kept. */
public final class EdgesOfAnswersTest {
    private static final Check CHECK = new Check();
    private static final String STAR = "cable 0.1 e0;cable 0.2 e1;cable 0.3 e2;";
    private static final int[] NO_SOCKETS = {-1, 0, 8, 16, 24, 40, 41, Integer.MIN_VALUE, Integer.MAX_VALUE};
    private static final int[] NO_ENDS = {-1, 8, 32, 39, Integer.MIN_VALUE, Integer.MAX_VALUE};
    private static final int[] NO_ROUTERS = {-1, 4, 8, Integer.MIN_VALUE, Integer.MAX_VALUE};
    private static final int[] NO_ADDRESSES = {-1, 0, 1, 31, 96, 255, Integer.MIN_VALUE, Integer.MAX_VALUE};

    public static void main(String[] args) {
        socket();
        socketOfEachWhat();
        socketCounts();
        buffer();
        input();
        router();
        routerCounts();
        tableOf();
        endOf();
        endCounts();
        packet();
        byteOf();
        way();
        spread();
        loops();
        log();
        lasts();
        sound();
        image();
        look();
        CHECK.finish();
    }

    private static void socket() {
        CHECK.sentence("16 how often it was SPOILED. NONE - 99 if there is none such, or another what.");
        SpaceLinks x = Check.running(STAR);
        for (int s : NO_SOCKETS) {
            for (int what = -1; what <= 17; what++) {
                CHECK.due("socket(" + s + ", " + what + ")", -100, x.socket(s, what));
            }
        }
        for (int s = 1; s < 40; s += 31) {
            CHECK.due("socket(" + s + ", -1)", -100, x.socket(s, -1));
            CHECK.due("socket(" + s + ", 17)", -100, x.socket(s, 17));
            CHECK.due("socket(" + s + ", 16)", 0, x.socket(s, 16));
            for (int what : Check.FAR) {
                CHECK.due("socket(" + s + ", " + what + ")", -100, x.socket(s, what));
            }
        }
    }

    private static void socketOfEachWhat() {
        CHECK.sentence("2 the other one (NONE), 3 whether its CABLE is WHOLE (1, 0; 0 without), 4 whether it is ON");
        SpaceLinks x = Check.running(STAR);
        int[] due = {0, 10, -1, 0, 1, 0, 0, 0, 0, -1, 0, 0, 0, 0, 0, -1, 0};
        for (int what = 0; what < due.length; what++) {
            CHECK.due("without a CABLE: socket(7, " + what + ")", due[what], x.socket(7, what));
        }
        int[] running = {5, 2, 32, 1, 1, 24, 24, 0, 0, 258, 0, 0, 0, 0, 0, -1, 0};
        for (int what = 0; what < running.length; what++) {
            CHECK.due("in RUN: socket(1, " + what + ")", running[what], x.socket(1, what));
        }
        x.broken(1, true);
        x.tick(1);
        int[] fallen = {1, 0, 32, 0, 1, 0, 0, 0, 0, -1, 1, 1, 0, 0, 0, -1, 0};
        for (int what = 0; what < fallen.length; what++) {
            CHECK.due("SILENT: socket(1, " + what + ")", fallen[what], x.socket(1, what));
        }
        x.turn(1, false);
        CHECK.due("off", 0, x.socket(1, 4));
        CHECK.due("the other one", 32, x.socket(1, 2));
    }

    private static void socketCounts() {
        CHECK.sentence("5 BOUGHT, 6 SOLD, 7 what is in its BUFFER, 8 QUIET, 9 what it sent in the latest TICK (NONE: nothing), 10 how often it FELL, 11 how often it was SILENT, 12 bytes and MARKS that it sent, 13 that it heard, 14 whether it owes an ERROR MARK, 15 the TIME that is to be sent (NONE), 16 how often it was SPOILED.");
        SpaceLinks x = Check.running("cable e0 e1;");
        x.hold(0, true);
        Check.send(x, 0, 7, 7, 7, 7);
        Check.send(x, 1, 8, 8, 8);
        x.tick(4);
        x.time(0);
        // 32 sent 4 bytes, and heard 3 at 12, 13, 14, which it keeps; 33 heard 3 and took them.
        int[] due = {5, 6, 33, 1, 1, 20, 21, 3, 0, 7, 0, 0, 4, 3, 0, 1, 0};
        for (int what = 0; what < due.length; what++) {
            CHECK.due("socket(32, " + what + ")", due[what], x.socket(32, what));
        }
        x.odds(1000);
        x.tick(1);
        x.odds(0);
        CHECK.due("SPOILED", 1, x.socket(32, 16));
        CHECK.due("FELL", 1, x.socket(32, 10));
        CHECK.due("not SILENT", 0, x.socket(32, 11));
        CHECK.due("heard before", 3, x.socket(32, 13));
        x.tick(20);
        x.broken(32, true);
        x.tick(1);
        CHECK.due("SILENT", 1, x.socket(32, 11));
        CHECK.due("FELL", 2, x.socket(32, 10));
        x.broken(32, false);
        x.tick(20);
        x.turn(32, false);
        CHECK.due("by hand it FELL", 3, x.socket(32, 10));
        CHECK.due("by hand it is not SILENT", 1, x.socket(32, 11));
        CHECK.due("SPOILED once", 1, x.socket(32, 16));
    }

    private static void buffer() {
        CHECK.sentence("Number i of a SOCKET's BUFFER. NONE if there is none such.");
        SpaceLinks x = Check.running("cable e0 e1;");
        CHECK.due("of an empty one", -1, x.buffer(33, 0));
        x.hold(1, true);
        Check.send(x, 0, 9, 8, 7);
        x.tick(6);
        int[] due = {9, 8, 7, 256, -1, -1};
        for (int i = 0; i < due.length; i++) {
            CHECK.due("buffer(33, " + i + ")", due[i], x.buffer(33, i));
        }
        CHECK.due("buffer(33, -1)", -1, x.buffer(33, -1));
        for (int i : Check.FAR) {
            CHECK.due("buffer(33, " + i + ")", -1, x.buffer(33, i));
        }
        for (int s : NO_SOCKETS) {
            CHECK.due("buffer(" + s + ", 0)", -1, x.buffer(s, 0));
        }
        // It is used round and round.
        x.hold(1, false);
        x.tick(10);
        for (int k = 0; k < 5; k++) {
            x.hold(1, true);
            Check.send(x, 0, 10 * k, 10 * k + 1, 10 * k + 2, 1, 1, 1);
            x.tick(12);
            for (int i = 0; i < 3; i++) {
                CHECK.due("buffer(33, " + i + ")", 10 * k + i, x.buffer(33, i));
            }
            CHECK.due("buffer(33, 6)", 256, x.buffer(33, 6));
            CHECK.due("buffer(33, 7)", -1, x.buffer(33, 7));
            x.hold(1, false);
            x.tick(10);
        }
    }

    private static void input() {
        CHECK.sentence("3 the PORT that is ROUTED to it (NONE). NONE - 99 if there is none such, or another what.");
        SpaceLinks x = Check.running("cable 3.1 e0;cable 3.7 e1;");
        for (int s : NO_SOCKETS) {
            for (int what = -1; what <= 4; what++) {
                CHECK.due("input(" + s + ", " + what + ")", -100, x.input(s, what));
            }
        }
        for (int s = 32; s < 40; s++) {
            CHECK.due("an END's: input(" + s + ", 0)", -100, x.input(s, 0));
        }
        CHECK.due("input(25, -1)", -100, x.input(25, -1));
        CHECK.due("input(25, 4)", -100, x.input(25, 4));
        for (int what : Check.FAR) {
            CHECK.due("input(25, " + what + ")", -100, x.input(25, what));
        }
        int[] free = {0, -1, 0, -1};
        for (int what = 0; what < 4; what++) {
            CHECK.due("FREE: input(31, " + what + ")", free[what], x.input(31, what));
        }
        Check.send(x, 0, 7, 1, 2, 3);
        x.tick(2);
        int[] routed = {1, 7, 1, -1};
        int[] meant = {0, -1, 0, 1};
        for (int what = 0; what < 4; what++) {
            CHECK.due("ROUTED: input(25, " + what + ")", routed[what], x.input(25, what));
            CHECK.due("to it: input(31, " + what + ")", meant[what], x.input(31, what));
        }
        x.turn(31, false);
        CHECK.due("SPILLING", 2, x.input(25, 0));
        CHECK.due("to none", -1, x.input(25, 1));
        CHECK.due("none to it", -1, x.input(31, 3));
    }

    private static void router() {
        CHECK.sentence("10 ORDERS WRITTEN, 11 REFUSED. NONE if there is none such, or another what.");
        SpaceLinks x = Check.running(STAR);
        for (int r : NO_ROUTERS) {
            for (int what = -1; what <= 12; what++) {
                CHECK.due("router(" + r + ", " + what + ")", -1, x.router(r, what));
            }
        }
        for (int r = 0; r < 4; r++) {
            CHECK.due("router(" + r + ", -1)", -1, x.router(r, -1));
            CHECK.due("router(" + r + ", 12)", -1, x.router(r, 12));
            for (int what = 0; what <= 11; what++) {
                CHECK.due("router(" + r + ", " + what + ")", what == 0 ? 1 : 0, x.router(r, what));
            }
        }
        for (int what : Check.FAR) {
            CHECK.due("router(0, " + what + ")", -1, x.router(0, what));
        }
        for (int a = 32; a <= 95; a++) {
            x.table(1, a, 2, false);
        }
        CHECK.due("all TABLES", 64, x.router(1, 9));
    }

    private static void routerCounts() {
        CHECK.sentence("Of a ROUTER what 0 TURN, 1 TIME, 2 STEPS, 3 JUMPS, 4 packets ROUTED, 5 TAKEN, 6 LOST, 7 CUT, 8 empty packets, 9 TABLES, 10 ORDERS WRITTEN, 11 REFUSED.");
        SpaceLinks x = Check.running("cable 3.4 e0;cable 3.5 2.1;cable 2.2 e1;");
        x.watch(5);
        x.table(3, 32, 2, false);
        for (int k = 0; k < 2; k++) {
            Check.send(x, 0, 0, 1, 40 + k, 2, 0);
        }
        for (int k = 0; k < 3; k++) {
            Check.send(x, 0, 0, 9);
            Check.send(x, 0, 99, 9);
        }
        for (int k = 0; k < 6; k++) {
            Check.send(x, 0, 5);
        }
        for (int k = 0; k < 2; k++) {
            Check.send(x, 0, 7, 9);
        }
        for (int k = 0; k < 4; k++) {
            x.time(0);
            x.tick(2);
        }
        x.time(0);
        x.time(0);
        x.tick(92);
        int[] due = {5, 6, 4, 1, 6, 5, 3, 2, 0, 3, 2, 3};
        for (int what = 0; what < due.length; what++) {
            CHECK.due("router(3, " + what + ")", due[what], x.router(3, what));
        }
        CHECK.due("empty packets of the next one", 6, x.router(2, 8));
        CHECK.due("STEPS of the next one", 4, x.router(2, 2));
        CHECK.due("none is ROUTED by that", 0, x.router(2, 4));
    }

    private static void tableOf() {
        CHECK.sentence("PORTS of a TABLE (a set; 0 none), and 256 if the HEAD goes. NONE if there is none such.");
        SpaceLinks x = new SpaceLinks();
        for (int a = 32; a <= 95; a++) {
            CHECK.due("none for " + a, 0, x.tableOf(3, a));
        }
        for (int r : NO_ROUTERS) {
            CHECK.due("tableOf(" + r + ", 40)", -1, x.tableOf(r, 40));
        }
        for (int a : NO_ADDRESSES) {
            CHECK.due("tableOf(0, " + a + ")", -1, x.tableOf(0, a));
        }
        x.table(0, 32, 254, true);
        x.table(3, 95, 2, false);
        CHECK.due("the most", 510, x.tableOf(0, 32));
        CHECK.due("the least", 2, x.tableOf(3, 95));
        x.table(0, 32, 0, true);
        CHECK.due("none any more", 0, x.tableOf(0, 32));
    }

    private static void endOf() {
        CHECK.sentence("8 packets of its QUEUE that were SPILLED. NONE if there is none such, or another what.");
        SpaceLinks x = Check.running(STAR);
        for (int e : NO_ENDS) {
            for (int what = -1; what <= 9; what++) {
                CHECK.due("endOf(" + e + ", " + what + ")", -1, x.endOf(e, what));
            }
        }
        for (int e = 0; e < 8; e++) {
            CHECK.due("endOf(" + e + ", -1)", -1, x.endOf(e, -1));
            CHECK.due("endOf(" + e + ", 9)", -1, x.endOf(e, 9));
            for (int what = 0; what <= 8; what++) {
                CHECK.due("endOf(" + e + ", " + what + ")", 0, x.endOf(e, what));
            }
        }
        for (int what : Check.FAR) {
            CHECK.due("endOf(0, " + what + ")", -1, x.endOf(0, what));
        }
    }

    private static void endCounts() {
        CHECK.sentence("Of an END what 0 what is in its QUEUE, 1 packets RECEIVED in all, 2 WHOLE ones, 3 bytes that came in of the packet that comes in, 4 whether it HOLDS, 5 TIME, 6 STEPS, 7 JUMPS, 8 packets of its QUEUE that were SPILLED.");
        SpaceLinks x = Check.running("cable e6 e7;");
        for (int k = 0; k < 3; k++) {
            Check.send(x, 6, 1, 2);
        }
        x.tick(12);
        Check.send(x, 6, 1, 2, 3, 4);
        Check.send(x, 7, 1, 2, 3, 4);
        x.tick(3);
        x.unplug(38);
        x.plug(38, 39);
        x.tick(12);
        for (int k = 0; k < 2; k++) {
            x.time(6);
            x.tick(2);
        }
        for (int jump = 0; jump < 3; jump++) {
            x.time(6);
            x.time(6);
            x.tick(2);
        }
        Check.send(x, 6, 1, 2, 3, 4, 5, 6, 7, 8);
        Check.send(x, 7, 1, 2, 3, 4, 5, 6, 7, 8);
        x.tick(7);
        x.hold(7, true);
        // Of nine, seven were sent, and six came.
        int[] due = {2, 4, 3, 6, 1, 8, 2, 3, 1};
        for (int what = 0; what < due.length; what++) {
            CHECK.due("endOf(7, " + what + ")", due[what], x.endOf(7, what));
        }
        CHECK.due("TIME of the other one", 8, x.endOf(6, 5));
        CHECK.due("STEPS of the other one", 0, x.endOf(6, 6));
    }

    private static SpaceLinks received(int packets) {
        SpaceLinks x = Check.running("cable e0 e1;");
        for (int k = 1; k <= packets; k++) {
            Check.send(x, 0, k, 10 + k);
            x.tick(5);
        }
        return x;
    }

    private static void packet() {
        CHECK.sentence("2 the TICK in which its MARK was taken. NONE if there is none such (kept), or another what.");
        for (int packets = 0; packets <= 8; packets++) {
            SpaceLinks x = received(packets);
            for (int i = -1; i <= 8; i++) {
                boolean isKept = i >= 0 && i < packets && i < 6;
                CHECK.due("packet(1, " + i + ", 0) of " + packets, isKept ? 2 : -1, x.packet(1, i, 0));
                CHECK.due("packet(1, " + i + ", 1) of " + packets, isKept ? 1 : -1, x.packet(1, i, 1));
                int tick = 10 + 5 * (packets - i - 1) + 4;
                CHECK.due("packet(1, " + i + ", 2) of " + packets, isKept ? tick : -1, x.packet(1, i, 2));
            }
        }
        SpaceLinks x = received(7);
        CHECK.due("packet(1, 0, -1)", -1, x.packet(1, 0, -1));
        CHECK.due("packet(1, 0, 3)", -1, x.packet(1, 0, 3));
        for (int far : Check.FAR) {
            CHECK.due("packet(1, " + far + ", 0)", -1, x.packet(1, far, 0));
            CHECK.due("packet(1, 0, " + far + ")", -1, x.packet(1, 0, far));
        }
        for (int e : NO_ENDS) {
            CHECK.due("packet(" + e + ", 0, 0)", -1, x.packet(e, 0, 0));
        }
        CHECK.due("of another END", -1, x.packet(0, 0, 0));
    }

    private static void byteOf() {
        CHECK.sentence("Byte k of it. NONE if there is none such (kept).");
        SpaceLinks x = received(7);
        for (int i = 0; i < 6; i++) {
            CHECK.due("byteOf(1, " + i + ", 0)", 7 - i, x.byteOf(1, i, 0));
            CHECK.due("byteOf(1, " + i + ", 1)", 17 - i, x.byteOf(1, i, 1));
            CHECK.due("byteOf(1, " + i + ", 2)", -1, x.byteOf(1, i, 2));
            CHECK.due("byteOf(1, " + i + ", -1)", -1, x.byteOf(1, i, -1));
        }
        CHECK.due("byteOf(1, 6, 0)", -1, x.byteOf(1, 6, 0));
        CHECK.due("byteOf(1, -1, 0)", -1, x.byteOf(1, -1, 0));
        for (int far : Check.FAR) {
            CHECK.due("byteOf(1, " + far + ", 0)", -1, x.byteOf(1, far, 0));
            CHECK.due("byteOf(1, 0, " + far + ")", -1, x.byteOf(1, 0, far));
        }
        for (int e : NO_ENDS) {
            CHECK.due("byteOf(" + e + ", 0, 0)", -1, x.byteOf(e, 0, 0));
        }
        // What came in of the next one is no packet yet; and a longer one that was kept is forgotten.
        SpaceLinks y = Check.running("cable e0 e1;");
        Check.send(y, 0, new int[50]);
        y.tick(60);
        CHECK.due("the fortieth", 0, y.byteOf(1, 0, 39));
        CHECK.due("behind the fortieth", -1, y.byteOf(1, 0, 40));
        for (int k = 0; k < 8; k++) {
            Check.send(y, 0, 5);
            y.tick(5);
            CHECK.due("one byte", 5, y.byteOf(1, 0, 0));
            CHECK.due("and no more", -1, y.byteOf(1, 0, 1));
        }
    }

    private static void way() {
        CHECK.sentence("The i-th PORT of the WAY from an END to another one; i NONE: how many. NONE if there is none such, or no WAY.");
        SpaceLinks x = new SpaceLinks();
        Check.text(x, "cable e0 0.1;cable 0.2 1.1;cable 1.2 e1;cable e2 e3;");
        CHECK.due("how many", 2, x.way(0, 1, -1));
        int[] due = {2, 2, -1, -1};
        for (int i = 0; i < due.length; i++) {
            CHECK.due("way(0, 1, " + i + ")", due[i], x.way(0, 1, i));
        }
        CHECK.due("way(0, 1, -2)", -1, x.way(0, 1, -2));
        for (int far : Check.FAR) {
            CHECK.due("way(0, 1, " + far + ")", -1, x.way(0, 1, far));
        }
        for (int e : NO_ENDS) {
            for (int i = -1; i <= 1; i++) {
                CHECK.due("way(" + e + ", 1, " + i + ")", -1, x.way(e, 1, i));
                CHECK.due("way(0, " + e + ", " + i + ")", -1, x.way(0, e, i));
            }
        }
        CHECK.due("to itself", -1, x.way(0, 0, -1));
        CHECK.due("no WAY", -1, x.way(0, 2, -1));
        CHECK.due("no CABLE", -1, x.way(4, 5, -1));
        CHECK.due("side by side: none", 0, x.way(2, 3, -1));
        CHECK.due("side by side: the first", -1, x.way(2, 3, 0));
    }

    private static void spread() {
        CHECK.sentence("SPREAD of A from a ROUTER (a set of ENDS). NONE if there is none such.");
        SpaceLinks x = new SpaceLinks();
        Check.text(x, "cable e7 3.7;table 3 95 go 7;table 3 32 go 7;");
        CHECK.due("spread(3, 95)", 128, x.spread(3, 95));
        CHECK.due("spread(3, 32)", 128, x.spread(3, 32));
        CHECK.due("no TABLE: no END", 0, x.spread(3, 33));
        CHECK.due("spread(0, 95)", 0, x.spread(0, 95));
        for (int r : NO_ROUTERS) {
            CHECK.due("spread(" + r + ", 95)", -1, x.spread(r, 95));
        }
        for (int a : NO_ADDRESSES) {
            CHECK.due("spread(3, " + a + ")", -1, x.spread(3, a));
        }
    }

    private static void loops() {
        CHECK.sentence("Whether it LOOPS (1, 0). NONE likewise.");
        SpaceLinks x = new SpaceLinks();
        Check.text(x, "cable 3.1 3.2;table 3 95 stay 1;table 3 32 go 1;");
        CHECK.due("loops(3, 95)", 1, x.loops(3, 95));
        CHECK.due("loops(3, 32)", 0, x.loops(3, 32));
        CHECK.due("no TABLE", 0, x.loops(3, 33));
        for (int r : NO_ROUTERS) {
            CHECK.due("loops(" + r + ", 95)", -1, x.loops(r, 95));
        }
        for (int a : NO_ADDRESSES) {
            CHECK.due("loops(3, " + a + ")", -1, x.loops(3, a));
        }
    }

    private static void log() {
        CHECK.sentence("Of line i of THE LOG (0: the latest) what 0 TICK, 1 what, 2 the SOCKET. NONE if there is none such, or another what.");
        SpaceLinks x = new SpaceLinks();
        CHECK.due("of none", -1, x.log(0, 0));
        x.plug(32, 33);
        x.tick(8);
        CHECK.due("the latest", 33, x.log(0, 2));
        CHECK.due("the first", 32, x.log(1, 2));
        for (int what = 0; what < 3; what++) {
            CHECK.due("log(2, " + what + ")", -1, x.log(2, what));
            CHECK.due("log(-1, " + what + ")", -1, x.log(-1, what));
        }
        CHECK.due("log(0, -1)", -1, x.log(0, -1));
        CHECK.due("log(0, 3)", -1, x.log(0, 3));
        for (int far : Check.FAR) {
            CHECK.due("log(" + far + ", 0)", -1, x.log(far, 0));
            CHECK.due("log(0, " + far + ")", -1, x.log(0, far));
        }
    }

    private static void lasts() {
        CHECK.sentence("LASTS (n 1 .. 20). NONE if one can't be, or not by then.");
        SpaceLinks x = Check.running("cable e0 e1;");
        for (int k = 0; k < 25; k++) {
            Check.send(x, 0, k);
        }
        // Two characters each, one a TICK; the first is taken in the TICK behind that in which it was sent.
        for (int n = 1; n <= 20; n++) {
            CHECK.due("lasts(1, " + n + ")", 2 * n + 1, x.lasts(1, n));
        }
        CHECK.due("lasts(1, 0)", -1, x.lasts(1, 0));
        CHECK.due("lasts(1, 21)", -1, x.lasts(1, 21));
        for (int n : Check.FAR) {
            CHECK.due("lasts(1, " + n + ")", -1, x.lasts(1, n));
        }
        for (int e : NO_ENDS) {
            CHECK.due("lasts(" + e + ", 1)", -1, x.lasts(e, 1));
        }
        CHECK.due("not by then", -1, x.lasts(0, 1));
        x.hold(1, true);
        CHECK.due("it HOLDS", -1, x.lasts(1, 1));
    }

    private static void sound() {
        CHECK.sentence("Whether the CABLE of a SOCKET is SOUND (1, 0). NONE if both are not in RUN, or there is none (such).");
        SpaceLinks x = Check.running("cable e0 e1;");
        CHECK.due("SOUND", 1, x.sound(32));
        CHECK.due("the other side", 1, x.sound(33));
        CHECK.due("without a CABLE", -1, x.sound(34));
        for (int s : NO_SOCKETS) {
            CHECK.due("sound(" + s + ")", -1, x.sound(s));
        }
        x.turn(32, false);
        CHECK.due("one is not in RUN", -1, x.sound(32));
        CHECK.due("one is not in RUN, the other side", -1, x.sound(33));
        x.tick(1);
        CHECK.due("both are not", -1, x.sound(33));
    }

    private static void image() {
        CHECK.sentence("THE IMAGE is taken (true), or gone back to (false): true; false if there is none.");
        SpaceLinks x = new SpaceLinks();
        x.plug(32, 33);
        CHECK.changesNothing("none", x, () -> {
            CHECK.due("none", false, x.image(false));
            CHECK.due("none again", false, x.image(false));
        });
        CHECK.due("taken", true, x.image(true));
        x.tick(5);
        CHECK.due("taken anew", true, x.image(true));
        x.tick(5);
        CHECK.due("gone back", true, x.image(false));
        CHECK.due("to the latest", 5, x.look(0));
        CHECK.due("gone back again", true, x.image(false));
        CHECK.due("TICK", 5, x.look(0));
        CHECK.due("of one object alone", false, new SpaceLinks().image(false));
    }

    private static void look() {
        CHECK.sentence("18 ODDS, 19 STATE of DRAWS (as it is). NONE for another what.");
        SpaceLinks x = Check.running(STAR);
        x.state(-7);
        CHECK.due("look(19)", -7, x.look(19));
        CHECK.due("look(18)", 0, x.look(18));
        CHECK.due("look(0)", 10, x.look(0));
        CHECK.due("look(-1)", -1, x.look(-1));
        CHECK.due("look(20)", -1, x.look(20));
        for (int what : Check.FAR) {
            CHECK.due("look(" + what + ")", -1, x.look(what));
        }
        for (int what = 21; what < 70; what++) {
            CHECK.due("look(" + what + ")", -1, x.look(what));
        }
        SpaceLinks full = new SpaceLinks();
        for (int s = 1; s < 40; s++) {
            for (int other = s + 1; other < 40; other++) {
                full.plug(s, other);
            }
        }
        CHECK.due("all SOCKETS have a CABLE", 18, full.look(1));
        full.tick(8);
        CHECK.due("all are in RUN", 36, full.look(3));
        for (int s = 1; s < 40; s++) {
            full.broken(s, true);
        }
        CHECK.due("all are BROKEN", 18, full.look(2));
        full.tick(1);
        CHECK.due("none is in RUN", 0, full.look(3));
        CHECK.due("all FELL", 36, full.look(12));
        CHECK.due("all were SILENT", 36, full.look(13));
        CHECK.due("lines", 36 * 3, full.look(17));
    }
}
