/** Promises 20 and 21, part (c) of a TICK: who is ROUTED, who WAITS, who is CUT, what is LOST. */
public final class RoutingTest {
    private static final Check CHECK = new Check();
    private static final String STAR = "cable 0.1 e0;cable 0.2 e1;cable 0.3 e2;cable 0.4 e3;";

    public static void main(String[] args) {
        answers();
        cutThrough();
        logical();
        ownPort();
        waitsForPort();
        turnGoesRound();
        lostAndEmpty();
        cutAsItWaits();
        cutAsItIsRouted();
        outputFalls();
        inputFalls();
        stuckGoesOn();
        stuckBehindAFall();
        waitedAndLost();
        everyPort();
        allAtOnce();
        CHECK.finish();
    }

    private static void answers() {
        SpaceLinks x = Check.running(STAR);
        CHECK.due("input(32, 0)", -100, x.input(32, 0));
        CHECK.due("input(0, 0)", -100, x.input(0, 0));
        CHECK.due("input(8, 0)", -100, x.input(8, 0));
        CHECK.due("input(-1, 0)", -100, x.input(-1, 0));
        CHECK.due("input(40, 0)", -100, x.input(40, 0));
        CHECK.due("input(1, 4)", -100, x.input(1, 4));
        CHECK.due("input(1, -1)", -100, x.input(1, -1));
        int[] free = {0, -1, 0, -1};
        for (int what = 0; what < 4; what++) {
            CHECK.due("input(31, " + what + ")", free[what], x.input(31, what));
        }
        CHECK.due("router(-1, 0)", -1, x.router(-1, 0));
        CHECK.due("router(4, 0)", -1, x.router(4, 0));
        CHECK.due("router(0, -1)", -1, x.router(0, -1));
        CHECK.due("router(0, 12)", -1, x.router(0, 12));
        for (int what = 0; what < 12; what++) {
            CHECK.due("router(3, " + what + ")", what == 0 ? 1 : 0, x.router(3, what));
        }
    }

    private static void cutThrough() {
        SpaceLinks x = Check.running("cable 1.1 e0;cable 1.2 e1;");
        Check.send(x, 0, 2, 7, 9);
        x.tick(1);
        CHECK.due("HEAD is sent", 2, x.socket(32, 9));
        x.tick(1);
        CHECK.due("ROUTED", 1, x.input(9, 0));
        CHECK.due("to PORT", 2, x.input(9, 1));
        CHECK.due("STUCK", 1, x.input(9, 2));
        CHECK.due("none to it", -1, x.input(9, 3));
        CHECK.due("its INPUT", 1, x.input(10, 3));
        CHECK.due("FREE itself", 0, x.input(10, 0));
        CHECK.due("TURN", 2, x.router(1, 0));
        CHECK.due("packets ROUTED", 1, x.router(1, 4));
        CHECK.due("log: ROUTED", 4, x.log(0, 1));
        CHECK.due("log: the INPUT", 9, x.log(0, 2));
        x.tick(1);
        CHECK.due("the byte behind the HEAD", 7, x.socket(10, 9));
        CHECK.due("not STUCK", 0, x.input(9, 2));
        x.tick(2);
        CHECK.due("the MARK", 256, x.socket(10, 9));
        CHECK.due("FREE", 0, x.input(9, 0));
        CHECK.due("to none", -1, x.input(9, 1));
        CHECK.due("no INPUT", -1, x.input(10, 3));
        x.tick(1);
        CHECK.due("RECEIVED", 2, x.packet(1, 0, 0));
        CHECK.due("first byte", 7, x.byteOf(1, 0, 0));
    }

    private static void logical() {
        SpaceLinks x = Check.running(STAR);
        x.table(0, 40, 4 + 8, false);
        x.table(0, 41, 8, true);
        Check.send(x, 0, 40, 1);
        Check.send(x, 3, 40, 2);
        x.tick(2);
        CHECK.due("the least PORT that is free", 2, x.input(1, 1));
        CHECK.due("the next one", 3, x.input(4, 1));
        CHECK.due("the HEAD stays", 40, x.socket(2, 9));
        x.tick(8);
        CHECK.due("END 1", 40, x.byteOf(1, 0, 0));
        CHECK.due("END 1", 1, x.byteOf(1, 0, 1));
        CHECK.due("END 2", 2, x.byteOf(2, 0, 1));
        Check.send(x, 0, 41, 40, 6);
        x.tick(8);
        CHECK.due("the HEAD goes", 40, x.byteOf(2, 0, 0));
        CHECK.due("bytes", 2, x.packet(2, 0, 0));
        x.turn(2, false);
        Check.send(x, 0, 40, 8);
        x.tick(8);
        CHECK.due("PORT 2 is not in RUN: END 2", 8, x.byteOf(2, 0, 1));
        CHECK.due("packets ROUTED", 4, x.router(0, 4));
    }

    /** Its own PORT is not for an INPUT, though a group may name it. */
    private static void ownPort() {
        SpaceLinks x = Check.running(STAR);
        x.table(0, 40, 2 + 8, false);
        Check.send(x, 0, 40, 1);
        x.tick(2);
        CHECK.due("not its own", 3, x.input(1, 1));
        x.tick(5);
        Check.send(x, 0, 1, 1);
        x.tick(2);
        CHECK.due("it WAITS", 0, x.input(1, 0));
        CHECK.due("STUCK", 1, x.input(1, 2));
        CHECK.due("the HEAD is there", 1, x.buffer(1, 0));
    }

    private static void waitsForPort() {
        SpaceLinks x = Check.running(STAR);
        Check.send(x, 0, 3, 1, 2, 3);
        Check.send(x, 1, 3, 4);
        x.tick(2);
        CHECK.due("INPUT 1 is ROUTED", 1, x.input(1, 0));
        CHECK.due("INPUT 2 WAITS", 0, x.input(2, 0));
        CHECK.due("STUCK", 1, x.input(2, 2));
        x.tick(3);
        CHECK.due("STUCK", 4, x.input(2, 2));
        CHECK.due("its BUFFER", 3, x.socket(2, 7));
        x.tick(1);
        CHECK.due("the MARK is sent", 256, x.socket(3, 9));
        CHECK.due("STUCK", 5, x.input(2, 2));
        x.tick(1);
        CHECK.due("INPUT 2 is ROUTED", 1, x.input(2, 0));
        CHECK.due("and sends at once", 4, x.socket(3, 9));
        CHECK.due("not STUCK", 0, x.input(2, 2));
        CHECK.due("TURN", 3, x.router(0, 0));
        x.tick(5);
        CHECK.due("both came", 2, x.endOf(2, 2));
    }

    private static void turnGoesRound() {
        SpaceLinks x = Check.running(STAR + "cable 0.7 e4;");
        Check.send(x, 4, 4, 1);
        x.tick(8);
        CHECK.due("TURN behind 7", 1, x.router(0, 0));
        Check.send(x, 1, 4, 1);
        x.tick(8);
        CHECK.due("TURN behind 2", 3, x.router(0, 0));
        Check.send(x, 0, 4, 1);
        Check.send(x, 1, 4, 2);
        Check.send(x, 2, 4, 3);
        x.tick(2);
        CHECK.due("INPUT 3 has the TURN", 1, x.input(3, 0));
        CHECK.due("INPUT 1 WAITS", 0, x.input(1, 0));
        x.tick(3);
        CHECK.due("INPUT 1 is next, from 4 on", 1, x.input(1, 0));
        CHECK.due("INPUT 2 WAITS", 0, x.input(2, 0));
        x.tick(6);
        CHECK.due("all came", 5, x.endOf(3, 1));
        CHECK.due("the last one", 2, x.byteOf(3, 0, 0));
        CHECK.due("the one ahead", 1, x.byteOf(3, 1, 0));
        CHECK.due("the first of the three", 3, x.byteOf(3, 2, 0));
    }

    private static void lostAndEmpty() {
        int[] wrong = {8, 31, 32, 95, 96, 255};
        for (int head : wrong) {
            SpaceLinks x = Check.running(STAR);
            Check.send(x, 0, head, 1, 2);
            x.tick(2);
            CHECK.due("LOST " + head, 1, x.router(0, 6));
            CHECK.due("SPILLING " + head, 2, x.input(1, 0));
            CHECK.due("log: LOST", 6, x.log(0, 1));
            CHECK.due("log: the INPUT", 1, x.log(0, 2));
            x.tick(2);
            CHECK.due("still SPILLING " + head, 2, x.input(1, 0));
            x.tick(1);
            CHECK.due("FREE " + head, 0, x.input(1, 0));
            CHECK.due("no empty packet", 0, x.router(0, 8));
            CHECK.due("no ORDER", 0, x.router(0, 11));
            CHECK.due("not STUCK", 0, x.input(1, 2));
            CHECK.due("BUFFER", 0, x.socket(1, 7));
        }
        SpaceLinks x = Check.running(STAR + "cable 0.5 1.1;");
        Check.send(x, 0, 5);
        x.tick(3);
        CHECK.due("the MARK alone is sent on", 256, x.socket(5, 9));
        x.tick(1);
        CHECK.due("an empty packet at ROUTER 1", 1, x.router(1, 8));
        CHECK.due("not STUCK at ROUTER 1", 0, x.input(9, 2));
        CHECK.due("none at ROUTER 0", 0, x.router(0, 8));
        Check.send(x, 0, 2);
        x.tick(6);
        CHECK.due("a MARK alone comes to an END", 1, x.endOf(1, 1));
        CHECK.due("without a byte", 0, x.packet(1, 0, 0));
    }

    private static void cutAsItWaits() {
        SpaceLinks x = Check.running(STAR);
        x.watch(5);
        Check.send(x, 0, 5, 1);
        Check.send(x, 0, 2, 8);
        x.tick(6);
        CHECK.due("STUCK", 5, x.input(1, 2));
        CHECK.due("CUT", 0, x.router(0, 7));
        x.tick(1);
        CHECK.due("CUT", 1, x.router(0, 7));
        CHECK.due("SPILLING", 2, x.input(1, 0));
        CHECK.due("STUCK", 0, x.input(1, 2));
        CHECK.due("log: CUT", 5, x.log(0, 1));
        CHECK.due("log: the INPUT", 1, x.log(0, 2));
        CHECK.due("BUFFER", 6, x.socket(1, 7));
        x.tick(1);
        CHECK.due("ROUTED then", 1, x.input(1, 0));
        CHECK.due("packets ROUTED", 1, x.router(0, 4));
        CHECK.due("and sends", 8, x.socket(2, 9));
        x.tick(3);
        CHECK.due("the next one came", 8, x.byteOf(1, 0, 0));
        CHECK.due("no ERROR MARK is owed", 0, x.look(5) - x.look(6));
    }

    private static void cutAsItIsRouted() {
        SpaceLinks x = Check.running(STAR);
        x.watch(5);
        x.hold(1, true);
        int[] packet = new int[50];
        packet[0] = 2;
        Check.send(x, 0, packet);
        Check.send(x, 2, 2, 77);
        x.tick(2);
        CHECK.due("INPUT 3 WAITS", 1, x.input(3, 2));
        x.tick(5);
        CHECK.due("INPUT 3 is CUT", 1, x.router(0, 7));
        x.tick(22);
        CHECK.due("INPUT 1 gets nothing on", 3, x.input(1, 2));
        Check.send(x, 2, 2, 78);
        x.tick(2);
        CHECK.due("STUCK", 5, x.input(1, 2));
        CHECK.due("owes nothing", 0, x.socket(2, 14));
        x.tick(1);
        CHECK.due("INPUT 1 is CUT", 2, x.router(0, 7));
        CHECK.due("SPILLING", 2, x.input(1, 0));
        CHECK.due("to none", -1, x.input(1, 1));
        CHECK.due("from none", -1, x.input(2, 3));
        CHECK.due("owes an ERROR MARK", 1, x.socket(2, 14));
        CHECK.due("no ORDER", 0, x.router(0, 11));
        x.image(true);
        x.turn(2, false);
        CHECK.due("it FALLS: owes nothing", 0, x.socket(2, 14));
        x.image(false);
        x.hold(1, false);
        x.tick(3);
        CHECK.due("INPUT 3 WAITS: it is owed", 0, x.input(3, 0));
        CHECK.due("STUCK", 5, x.input(3, 2));
        x.watch(50);
        x.tick(6);
        CHECK.due("CREDIT comes, the ERROR MARK goes", 257, x.socket(2, 9));
        CHECK.due("owes nothing", 0, x.socket(2, 14));
        x.tick(1);
        CHECK.due("INPUT 3 is ROUTED", 1, x.input(3, 0));
        x.tick(40);
        CHECK.due("not WHOLE", 0, x.packet(1, 1, 1));
        CHECK.due("what of it came", 24, x.packet(1, 1, 0));
        CHECK.due("WHOLE", 1, x.packet(1, 0, 1));
        CHECK.due("the other one", 78, x.byteOf(1, 0, 0));
        CHECK.due("INPUT 1 is FREE", 0, x.input(1, 0));
    }

    /** The PORT falls: its INPUT is SPILLING, and the END behind it sees an ERROR MARK. */
    private static void outputFalls() {
        SpaceLinks x = Check.running(STAR);
        Check.send(x, 0, 2, 1, 2, 3, 4, 5);
        Check.send(x, 0, 3, 9);
        x.tick(4);
        CHECK.due("ROUTED", 1, x.input(1, 0));
        x.turn(2, false);
        CHECK.due("SPILLING at once", 2, x.input(1, 0));
        CHECK.due("to none", -1, x.input(1, 1));
        CHECK.due("from none", -1, x.input(2, 3));
        CHECK.due("STUCK", 0, x.input(1, 2));
        x.tick(2);
        CHECK.due("not WHOLE", 1, x.look(5) - x.look(6));
        CHECK.due("what came", 1, x.packet(1, 0, 0));
        x.tick(8);
        CHECK.due("the next one came", 9, x.byteOf(2, 0, 0));
        CHECK.due("CUT", 0, x.router(0, 7));
        CHECK.due("no ORDER", 0, x.router(0, 11));
        CHECK.due("END 0 lost nothing", 0, x.endOf(0, 8));
    }

    /** The INPUT's own link falls: what came goes on, with an ERROR MARK behind. */
    private static void inputFalls() {
        SpaceLinks x = Check.running(STAR);
        Check.send(x, 0, 2, 1, 2, 3, 4, 5);
        x.tick(4);
        x.turn(32, false);
        CHECK.due("END 0: SPILLED", 1, x.endOf(0, 8));
        CHECK.due("QUEUE", 0, x.endOf(0, 0));
        x.tick(1);
        CHECK.due("an ERROR MARK goes on", 257, x.socket(2, 9));
        CHECK.due("FREE", 0, x.input(1, 0));
        CHECK.due("STATE of the INPUT's SOCKET", 1, x.socket(1, 0));
        x.tick(1);
        CHECK.due("END 1: not WHOLE", 0, x.packet(1, 0, 1));
        CHECK.due("END 1: bytes", 2, x.packet(1, 0, 0));
    }

    /** STUCK counts on as one that WAITED is ROUTED and still sends nothing. */
    private static void stuckGoesOn() {
        SpaceLinks x = Check.running(STAR);
        x.hold(1, true);
        Check.send(x, 2, 2, 0, 0, 0, 0, 0, 0, 0, 0, 0, 0, 0, 0, 0, 0, 0, 0, 0, 0, 0, 0, 0, 0, 0);
        x.tick(24);
        Check.send(x, 0, 2, 7);
        x.tick(2);
        CHECK.due("WAITS", 1, x.input(1, 2));
        CHECK.due("the last of the other", 256, x.socket(2, 9));
        CHECK.due("BOUGHT", 0, x.socket(2, 5));
        x.tick(1);
        CHECK.due("ROUTED", 1, x.input(1, 0));
        CHECK.due("STUCK two TICKS", 2, x.input(1, 2));
        x.tick(1);
        CHECK.due("STUCK three TICKS", 3, x.input(1, 2));
        x.tick(17);
        CHECK.due("STUCK as long as WATCH", 20, x.input(1, 2));
        x.tick(1);
        CHECK.due("CUT", 1, x.router(0, 7));
        CHECK.due("nothing was sent of it: none is owed", 0, x.socket(2, 14));
    }

    /** STUCK is told of the INPUT, not of a packet: it goes on if the next one WAITS in the next TICK. */
    private static void stuckBehindAFall() {
        SpaceLinks x = Check.running(STAR);
        x.hold(1, true);
        Check.send(x, 2, 2, 0, 0, 0, 0, 0, 0, 0, 0, 0, 0, 0, 0, 0, 0, 0, 0, 0, 0, 0, 0, 0, 0, 0);
        x.tick(24);
        Check.send(x, 0, 2, 7);
        Check.send(x, 0, 2, 8);
        x.tick(6);
        CHECK.due("ROUTED", 1, x.input(1, 0));
        CHECK.due("STUCK", 5, x.input(1, 2));
        x.broken(2, true);
        x.tick(1);
        CHECK.due("the next one WAITS", 0, x.input(1, 0));
        CHECK.due("BUFFER", 3, x.socket(1, 7));
        CHECK.due("STUCK", 6, x.input(1, 2));
    }

    /** No TABLE any more: one that WAITED is LOST, and not STUCK. */
    private static void waitedAndLost() {
        SpaceLinks x = Check.running(STAR);
        x.table(0, 40, 32, false);
        Check.send(x, 0, 40, 1);
        x.tick(6);
        CHECK.due("STUCK", 5, x.input(1, 2));
        x.table(0, 40, 0, false);
        x.tick(1);
        CHECK.due("LOST", 1, x.router(0, 6));
        CHECK.due("FREE", 0, x.input(1, 0));
        CHECK.due("not STUCK", 0, x.input(1, 2));
    }

    /** Marks, wrong HEADS and ORDERS ahead all go in one TICK. */
    private static void allAtOnce() {
        SpaceLinks x = Check.running(STAR);
        x.watch(200);
        Check.send(x, 0, 5, 1);
        Check.send(x, 0, 99);
        Check.send(x, 0, 0, 3);
        Check.send(x, 0, 0);
        Check.send(x, 0, 40, 6);
        x.tick(20);
        CHECK.due("all WAITS", 13, x.socket(1, 7));
        CHECK.due("STUCK", 19, x.input(1, 2));
        x.table(0, 40, 8, true);
        x.watch(20);
        x.tick(2);
        CHECK.due("CUT", 1, x.router(0, 7));
        CHECK.due("nothing is gone yet", 13, x.socket(1, 7));
        x.tick(1);
        CHECK.due("LOST", 1, x.router(0, 6));
        CHECK.due("TAKEN", 2, x.router(0, 5));
        CHECK.due("WRITTEN", 1, x.router(0, 10));
        CHECK.due("REFUSED", 1, x.router(0, 11));
        CHECK.due("ROUTED", 1, x.input(1, 0));
        CHECK.due("and sent at once", 6, x.socket(3, 9));
        CHECK.due("the MARK is left", 1, x.socket(1, 7));
    }

    /** Each PORT as INPUT and as the one that is MEANT, by path and by TABLE. */
    private static void everyPort() {
        SpaceLinks x = Check.running("cable e0 3.1;cable e1 3.2;cable e2 3.3;cable e3 3.4;cable e4 3.5;cable e5 3.6;cable e6 3.7;");
        for (int e = 0; e < 7; e++) {
            int port = (e + 1) % 7 + 1;
            x.table(3, 50 + e, 1 << port, true);
            Check.send(x, e, port, e);
            Check.send(x, e, 50 + e, e);
        }
        x.tick(2);
        for (int e = 0; e < 7; e++) {
            CHECK.due("PORT " + (e + 1) + " is ROUTED to", (e + 1) % 7 + 1, x.input(25 + e, 1));
        }
        CHECK.due("TURN behind 7", 1, x.router(3, 0));
        x.tick(10);
        for (int e = 0; e < 7; e++) {
            CHECK.due("END " + (e + 1) % 7 + " RECEIVED", 2, x.endOf((e + 1) % 7, 2));
            CHECK.due("byte", e, x.byteOf((e + 1) % 7, 0, 0));
            CHECK.due("bytes", 1, x.packet((e + 1) % 7, 0, 0));
        }
    }
}
