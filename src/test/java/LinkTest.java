/** Promises 11, 18 and 19, parts (a), (b) and (d) of a TICK: STATES, AGE, CREDIT, who FALLS. */
public final class LinkTest {
    private static final Check CHECK = new Check();

    public static void main(String[] args) {
        tick();
        start();
        alone();
        credit();
        holdBack();
        fallWithPacket();
        fallsAgain();
        silentAsItConnects();
        noCredit();
        byteBeforeCredit();
        answersOfSocket();
        CHECK.finish();
    }

    private static void tick() {
        SpaceLinks x = new SpaceLinks();
        CHECK.due("tick(0)", -1, x.tick(0));
        CHECK.due("tick(-1)", -1, x.tick(-1));
        CHECK.due("tick(101)", -1, x.tick(101));
        CHECK.due("tick(MAX)", -1, x.tick(Integer.MAX_VALUE));
        CHECK.due("TICK", 0, x.look(0));
        CHECK.due("tick(1)", 1, x.tick(1));
        CHECK.due("tick(100)", 101, x.tick(100));
        CHECK.due("TICK", 101, x.look(0));
    }

    private static void start() {
        int[] states = {1, 1, 2, 2, 2, 2, 3, 4, 5, 5, 5};
        int[] ages = {0, 1, 0, 1, 2, 3, 0, 0, 0, 1, 2};
        int[] sent = {-1, -1, -1, -1, -1, -1, 258, 259, 259, 259, 258};
        int[] bought = {0, 0, 0, 0, 0, 0, 0, 0, 8, 16, 24};
        int[] sold = {0, 0, 0, 0, 0, 0, 0, 8, 16, 24, 24};
        SpaceLinks x = new SpaceLinks();
        x.plug(1, 39);
        for (int t = 0; t <= 10; t++) {
            for (int s = 1; s < 40; s += 38) {
                CHECK.due("start: STATE of " + s + " at " + t, states[t], x.socket(s, 0));
                CHECK.due("start: AGE of " + s + " at " + t, ages[t], x.socket(s, 1));
                CHECK.due("start: sent by " + s + " at " + t, sent[t], x.socket(s, 9));
                CHECK.due("start: BOUGHT of " + s + " at " + t, bought[t], x.socket(s, 5));
                CHECK.due("start: SOLD of " + s + " at " + t, sold[t], x.socket(s, 6));
            }
            x.tick(1);
        }
        CHECK.due("NULLS", 6, x.look(7));
        CHECK.due("CREDITS", 6, x.look(8));
        CHECK.due("log: RUN of 39", 39, x.log(0, 2));
        CHECK.due("log: RUN of 1", 1, x.log(1, 2));
        CHECK.due("log: RUN at", 8, x.log(1, 0));
    }

    /** The other one is off: STARTED hears nothing, and FALLS with AGE 6. */
    private static void alone() {
        SpaceLinks x = new SpaceLinks();
        x.plug(32, 33);
        x.turn(33, false);
        x.tick(6);
        CHECK.due("alone: STATE at 6", 3, x.socket(32, 0));
        CHECK.due("alone: QUIET at 6", 0, x.socket(32, 8));
        x.tick(5);
        CHECK.due("alone: STATE at 11", 3, x.socket(32, 0));
        CHECK.due("alone: AGE at 11", 5, x.socket(32, 1));
        CHECK.due("alone: QUIET at 11", 5, x.socket(32, 8));
        CHECK.due("alone: FELL at 11", 0, x.socket(32, 10));
        x.tick(1);
        CHECK.due("alone: STATE at 12", 1, x.socket(32, 0));
        CHECK.due("alone: AGE at 12", 0, x.socket(32, 1));
        CHECK.due("alone: QUIET at 12", 0, x.socket(32, 8));
        CHECK.due("alone: FELL at 12", 1, x.socket(32, 10));
        CHECK.due("alone: SILENT at 12", 0, x.socket(32, 11));
        CHECK.due("alone: sent at 12", -1, x.socket(32, 9));
        CHECK.due("alone: log", 1, x.log(0, 1));
        x.turn(33, true);
        x.tick(7);
        CHECK.due("not alone: STATE of 33", 4, x.socket(33, 0));
        CHECK.due("not alone: STATE of 32", 4, x.socket(32, 0));
    }

    private static void credit() {
        SpaceLinks x = Check.running("cable e0 e1;");
        CHECK.due("send", 11, Check.send(x, 0, 1, 2, 3, 4, 5, 6, 7, 8, 9, 10));
        x.tick(8);
        CHECK.due("BOUGHT as eight are sent", 16, x.socket(32, 5));
        CHECK.due("SOLD of the other", 17, x.socket(33, 6));
        CHECK.due("what it sent", 8, x.socket(32, 9));
        CHECK.due("no CREDIT yet", 258, x.socket(33, 9));
        x.tick(1);
        CHECK.due("SOLD 16: CREDIT", 259, x.socket(33, 9));
        CHECK.due("SOLD is 8 more", 24, x.socket(33, 6));
        CHECK.due("BOUGHT", 15, x.socket(32, 5));
        CHECK.due("SOUND meanwhile", 1, x.sound(32));
        x.tick(1);
        CHECK.due("BOUGHT with CREDIT", 22, x.socket(32, 5));
        x.tick(2);
        CHECK.due("bytes and MARKS sent", 11, x.socket(32, 12));
        CHECK.due("bytes and MARKS heard", 11, x.socket(33, 13));
        CHECK.due("sent by the other", 0, x.socket(33, 12));
        CHECK.due("heard by the one", 0, x.socket(32, 13));
        CHECK.due("bytes", 10, x.look(10));
        CHECK.due("MARKS", 1, x.look(11));
        CHECK.due("CREDITS", 7, x.look(8));
    }

    /** An END that HOLDS gets 24 at most. */
    private static void holdBack() {
        SpaceLinks x = Check.running("cable e0 e1;");
        x.hold(1, true);
        CHECK.due("send", 31, Check.send(x, 0, new int[30]));
        x.tick(40);
        CHECK.due("BUFFER", 24, x.socket(33, 7));
        CHECK.due("SOLD", 0, x.socket(33, 6));
        CHECK.due("BOUGHT", 0, x.socket(32, 5));
        CHECK.due("QUEUE", 7, x.endOf(0, 0));
        CHECK.due("SOUND", 1, x.sound(33));
        x.hold(1, false);
        x.tick(7);
        CHECK.due("BUFFER 17: no CREDIT", 258, x.socket(33, 9));
        x.tick(1);
        CHECK.due("BUFFER 16: CREDIT", 259, x.socket(33, 9));
        x.tick(30);
        CHECK.due("all came", 1, x.endOf(1, 2));
        CHECK.due("how many", 30, x.packet(1, 0, 0));
    }

    /** A link that breaks with a packet: an ERROR MARK comes, the rest of the packet is SPILLED. */
    private static void fallWithPacket() {
        SpaceLinks x = Check.running("cable e0 e1;");
        Check.send(x, 0, 1, 2, 3, 4, 5);
        Check.send(x, 0, 9);
        x.tick(3);
        x.hold(1, true);
        x.broken(32, true);
        x.tick(1);
        CHECK.due("SILENT", 2, x.look(13));
        CHECK.due("FELL", 2, x.look(12));
        CHECK.due("an ERROR MARK", 257, x.buffer(33, 0));
        CHECK.due("BUFFER", 1, x.socket(33, 7));
        CHECK.due("QUEUE without the rest", 2, x.endOf(0, 0));
        CHECK.due("SPILLED", 1, x.endOf(0, 8));
        CHECK.due("BOUGHT", 0, x.socket(32, 5));
        CHECK.due("SOLD", 0, x.socket(33, 6));
        x.hold(1, false);
        x.broken(32, false);
        x.tick(1);
        CHECK.due("RECEIVED", 1, x.endOf(1, 1));
        CHECK.due("not WHOLE", 0, x.endOf(1, 2));
        CHECK.due("bytes of it", 2, x.packet(1, 0, 0));
        CHECK.due("not WHOLE either", 0, x.packet(1, 0, 1));
        CHECK.due("log: not WHOLE", 8, x.log(0, 1));
        x.turn(32, false);
        x.turn(32, true);
        x.tick(20);
        CHECK.due("the next one came", 1, x.endOf(1, 2));
        CHECK.due("byte of it", 9, x.byteOf(1, 0, 0));
        CHECK.due("no more SPILLED", 1, x.endOf(0, 8));
        x.turn(32, false);
        x.tick(1);
        CHECK.due("behind a MARK: no ERROR MARK", 0, x.socket(33, 7));
        CHECK.due("RECEIVED", 2, x.endOf(1, 1));
    }

    /** Each packet is broken off once, though its link FALLS more than once. */
    private static void fallsAgain() {
        SpaceLinks x = Check.running("cable e0 e1;");
        Check.send(x, 0, 1, 2, 3, 4, 5);
        Check.send(x, 0, 9);
        x.hold(1, true);
        x.tick(3);
        x.broken(32, true);
        x.tick(40);
        CHECK.due("FELL", 4, x.socket(32, 10));
        CHECK.due("SPILLED", 1, x.endOf(0, 8));
        CHECK.due("QUEUE", 2, x.endOf(0, 0));
        CHECK.due("BUFFER", 3, x.socket(33, 7));
        CHECK.due("the last one", 257, x.buffer(33, 2));
    }

    private static void silentAsItConnects() {
        SpaceLinks x = new SpaceLinks();
        x.plug(32, 33);
        x.tick(7);
        x.broken(32, true);
        x.tick(1);
        CHECK.due("STATE", 1, x.socket(32, 0));
        CHECK.due("SILENT", 2, x.look(13));
        CHECK.due("SOLD", 0, x.socket(33, 6));
    }

    /** A BUFFER of 25 sells nothing: CONNECTING without CREDIT FALLS with AGE 6. */
    private static void noCredit() {
        SpaceLinks x = Check.running("cable e0 e1;");
        x.hold(1, true);
        Check.send(x, 0, new int[30]);
        x.tick(40);
        x.turn(33, false);
        CHECK.due("an ERROR MARK beyond the 24", 25, x.socket(33, 7));
        CHECK.due("the last one", 257, x.buffer(33, 24));
        x.turn(33, true);
        x.tick(1);
        CHECK.due("32 is SILENT", 1, x.socket(32, 11));
        x.tick(6);
        CHECK.due("32 is STARTED", 3, x.socket(32, 0));
        x.tick(1);
        CHECK.due("33 is CONNECTING", 4, x.socket(33, 0));
        CHECK.due("33 sells nothing", 258, x.socket(33, 9));
        CHECK.due("32 sells", 259, x.socket(32, 9));
        x.tick(1);
        CHECK.due("33 is in RUN", 5, x.socket(33, 0));
        CHECK.due("32 is not", 4, x.socket(32, 0));
        CHECK.due("not both in RUN", -1, x.sound(32));
        x.tick(4);
        CHECK.due("AGE 5", 5, x.socket(32, 1));
        CHECK.due("33 BOUGHT", 24, x.socket(33, 5));
        x.tick(1);
        CHECK.due("32 FELL", 1, x.socket(32, 0));
        CHECK.due("not SILENT", 1, x.socket(32, 11));
        x.tick(1);
        CHECK.due("33 is SILENT", 1, x.socket(33, 11));
        CHECK.due("no second ERROR MARK", 25, x.socket(33, 7));
    }

    /** CONNECTING that hears a byte FALLS; the packet whose byte it was is SPILLED. */
    private static void byteBeforeCredit() {
        SpaceLinks x = Check.running("cable e0 e1;");
        x.hold(1, true);
        Check.send(x, 0, new int[30]);
        x.tick(40);
        x.turn(33, false);
        x.turn(33, true);
        Check.send(x, 1, 3, 4, 5);
        x.tick(9);
        CHECK.due("33 is in RUN and sends", 3, x.socket(33, 9));
        CHECK.due("32 is CONNECTING", 4, x.socket(32, 0));
        x.tick(1);
        CHECK.due("32 FELL", 1, x.socket(32, 0));
        CHECK.due("32 is one TICK old", 1, x.socket(32, 1));
        CHECK.due("nothing came", 0, x.socket(32, 7));
        x.tick(1);
        CHECK.due("SPILLED", 1, x.endOf(1, 8));
        CHECK.due("QUEUE", 0, x.endOf(1, 0));
    }

    private static void answersOfSocket() {
        SpaceLinks x = Check.running("cable e0 0.1;");
        CHECK.due("socket(32, -1)", -100, x.socket(32, -1));
        CHECK.due("socket(32, 17)", -100, x.socket(32, 17));
        CHECK.due("socket(0, 0)", -100, x.socket(0, 0));
        CHECK.due("socket(40, 0)", -100, x.socket(40, 0));
        CHECK.due("socket(-1, 0)", -100, x.socket(-1, 0));
        int[] due = {5, 2, 1, 1, 1, 24, 24, 0, 0, 258, 0, 0, 0, 0, 0, -1, 0};
        for (int what = 0; what < due.length; what++) {
            CHECK.due("socket(32, " + what + ")", due[what], x.socket(32, what));
        }
        Check.send(x, 0, 5);
        x.tick(2);
        CHECK.due("buffer(1, 0)", 5, x.buffer(1, 0));
        CHECK.due("buffer(1, 1)", -1, x.buffer(1, 1));
        CHECK.due("buffer(1, -1)", -1, x.buffer(1, -1));
        CHECK.due("buffer(0, 0)", -1, x.buffer(0, 0));
        CHECK.due("buffer(40, 0)", -1, x.buffer(40, 0));
        CHECK.due("buffer(-1, 0)", -1, x.buffer(-1, 0));
    }
}
