/** 'Terms', sentence by sentence: where SOCKETS begin and end, what is so at first, what a FALL takes away. */
public final class EdgesOfSocketsTest {
    private static final Check CHECK = new Check();
    private static final String STAR = "cable 0.1 e0;cable 0.2 e1;cable 0.3 e2;";

    public static void main(String[] args) {
        whichAreThere();
        oneCableAtMost();
        wholeAtFirst();
        onAtFirst();
        bytesAndMarks();
        resetAtOnce();
        offAtOnce();
        ageSinceItCameToBeSo();
        countsAtFirst();
        fallsFromThreeToFive();
        nothingIsBoughtOrOwed();
        errorMarkIfAByteCame();
        errorMarkBeyondTheBuffer();
        inputSpills();
        queueLosesItsPacket();
        CHECK.finish();
    }

    private static boolean isThere(int s) {
        return s >= 1 && s <= 7 || s >= 9 && s <= 15 || s >= 17 && s <= 23 || s >= 25 && s <= 31 || s >= 32 && s <= 39;
    }

    private static void whichAreThere() {
        CHECK.sentence("ROUTERS 0 .. 3 have PORTS 1 .. 7: SOCKET 8 times the ROUTER and the PORT; ENDS 0 .. 7 have one each: 32 and the END.");
        for (int s = -70; s < 110; s++) {
            socketIsThere(s);
        }
        for (int s : Check.FAR) {
            socketIsThere(s);
        }
        SpaceLinks x = new SpaceLinks();
        Check.text(x, "cable 3.7 e7;cable 0.1 e0;");
        CHECK.due("3.7", 39, x.socket(31, 2));
        CHECK.due("0.1", 32, x.socket(1, 2));
    }

    private static void socketIsThere(int s) {
        SpaceLinks x = new SpaceLinks();
        CHECK.due("socket(" + s + ", 0)", isThere(s) ? 0 : -100, x.socket(s, 0));
        CHECK.due("input(" + s + ", 0)", isThere(s) && s < 32 ? 0 : -100, x.input(s, 0));
        CHECK.due("plug(" + s + ", ..)", isThere(s), x.plug(s, s == 1 ? 2 : 1));
        CHECK.due("turn(" + s + ", false)", isThere(s), x.turn(s, false));
        CHECK.due("broken(" + s + ", true)", isThere(s), x.broken(s, true));
        CHECK.due("unplug(" + s + ")", isThere(s) ? s == 1 ? 2 : 1 : -1, x.unplug(s));
    }

    private static void oneCableAtMost() {
        CHECK.sentence("A CABLE joins two unlike SOCKETS, each has one at most (none at first)");
        SpaceLinks x = new SpaceLinks();
        CHECK.due("none at first", -1, x.socket(32, 2));
        CHECK.due("CABLES at first", 0, x.look(1));
        CHECK.due("one with itself", false, x.plug(32, 32));
        CHECK.due("a PORT with itself", false, x.plug(31, 31));
        CHECK.due("two", true, x.plug(32, 31));
        CHECK.changesNothing("a second CABLE", x, () -> {
            CHECK.due("the same again", false, x.plug(32, 31));
            CHECK.due("the other way", false, x.plug(31, 32));
            CHECK.due("the first has one", false, x.plug(32, 33));
            CHECK.due("the second has one", false, x.plug(33, 32));
            CHECK.due("the other one has one", false, x.plug(33, 31));
        });
        x.unplug(31);
        CHECK.due("it has none any more", true, x.plug(32, 33));
        CHECK.due("nor has the other one", true, x.plug(31, 34));
    }

    private static void wholeAtFirst() {
        CHECK.sentence("it is WHOLE (at first) or BROKEN");
        SpaceLinks x = new SpaceLinks();
        x.plug(32, 33);
        CHECK.due("WHOLE at first", 1, x.socket(32, 3));
        x.broken(33, true);
        CHECK.due("BROKEN", 0, x.socket(32, 3));
        x.unplug(32);
        x.plug(33, 32);
        CHECK.due("another one is WHOLE at first", 1, x.socket(33, 3));
        x.unplug(32);
        CHECK.due("none is not WHOLE", 0, x.socket(33, 3));
        x.broken(32, true);
        Check.text(x, "cable e0 e1;");
        CHECK.due("one that is told is WHOLE", 1, x.socket(32, 3));
    }

    private static void onAtFirst() {
        CHECK.sentence("A SOCKET is ON (at first) or off by hand.");
        SpaceLinks x = new SpaceLinks();
        for (int s = 0; s < 40; s++) {
            CHECK.due("ON " + s, isThere(s) ? 1 : -100, x.socket(s, 4));
        }
        x.turn(7, false);
        CHECK.due("off", 0, x.socket(7, 4));
        x.plug(7, 6);
        x.unplug(7);
        CHECK.due("a CABLE does not turn it", 0, x.socket(7, 4));
        CHECK.due("nor the other one", 1, x.socket(6, 4));
    }

    private static void bytesAndMarks() {
        CHECK.sentence("0 .. 255 a byte; 256 an END MARK, 257 an ERROR MARK; 258 NULL, 259 CREDIT, 260 and v TIME v (0 .. 63)");
        SpaceLinks x = Check.running("cable e0 e1;");
        int[] due = {0, 1, 127, 128, 254, 255, 256, 258};
        Check.send(x, 0, 0, 1, 127, 128, 254, 255);
        for (int c : due) {
            x.tick(1);
            CHECK.due("sent", c, x.socket(32, 9));
        }
        CHECK.due("0 is a byte", 0, x.byteOf(1, 0, 0));
        CHECK.due("255 is a byte", 255, x.byteOf(1, 0, 5));
        CHECK.due("and no MARK", 6, x.packet(1, 0, 0));
        for (int v = 1; v <= 64; v++) {
            x.time(0);
            x.tick(1);
            CHECK.due("TIME " + v % 64, 260 + v % 64, x.socket(32, 9));
        }
    }

    private static void resetAtOnce() {
        CHECK.sentence("With a CABLE and ON, that was OFF, it is RESET at once");
        SpaceLinks x = new SpaceLinks();
        x.tick(3);
        x.turn(33, false);
        x.plug(32, 33);
        CHECK.due("STATE, ON", 1, x.socket(32, 0));
        CHECK.due("AGE, ON", 0, x.socket(32, 1));
        CHECK.due("STATE, off", 0, x.socket(33, 0));
        x.tick(1);
        CHECK.due("still OFF", 0, x.socket(33, 0));
        x.turn(33, true);
        CHECK.due("STATE, ON now", 1, x.socket(33, 0));
        CHECK.due("AGE, ON now", 0, x.socket(33, 1));
        CHECK.due("STATE of the other one", 1, x.socket(32, 0));
        CHECK.due("AGE of the other one", 1, x.socket(32, 1));
        Check.text(x, "cable 2.1 3.1;");
        CHECK.due("STATE as a TEXT tells it", 1, x.socket(17, 0));
    }

    private static void offAtOnce() {
        CHECK.sentence("without, or off: OFF at once (and has sent nothing)");
        SpaceLinks x = Check.running("cable e0 e1;cable e2 e3;");
        CHECK.due("sent", 258, x.socket(32, 9));
        x.turn(32, false);
        CHECK.due("off: STATE", 0, x.socket(32, 0));
        CHECK.due("off: AGE", 0, x.socket(32, 1));
        CHECK.due("off: sent", -1, x.socket(32, 9));
        CHECK.due("the other one sent", 258, x.socket(33, 9));
        x.turn(32, true);
        CHECK.due("ON again: sent", -1, x.socket(32, 9));
        x.unplug(34);
        CHECK.due("without: STATE", 0, x.socket(34, 0));
        CHECK.due("without: STATE of the other one", 0, x.socket(35, 0));
        CHECK.due("without: sent", -1, x.socket(34, 9));
        CHECK.due("without: sent by the other one", -1, x.socket(35, 9));
        x.tick(1);
        CHECK.due("the other one of the first heard nothing", 1, x.socket(33, 11));
        x.turn(39, false);
        x.turn(39, true);
        CHECK.due("ON without a CABLE", 0, x.socket(39, 0));
        x.turn(33, false);
        x.unplug(33);
        x.turn(33, true);
        CHECK.due("ON, but without any more", 0, x.socket(33, 0));
    }

    private static void ageSinceItCameToBeSo() {
        CHECK.sentence("AGE: TICKS since it came to be so.");
        SpaceLinks x = new SpaceLinks();
        CHECK.due("AGE at first", 0, x.socket(5, 1));
        x.tick(4);
        CHECK.due("OFF for 4", 4, x.socket(5, 1));
        x.turn(5, false);
        CHECK.due("OFF as before, by hand", 4, x.socket(5, 1));
        x.plug(5, 6);
        CHECK.due("OFF as before, with a CABLE", 4, x.socket(5, 1));
        x.turn(5, true);
        CHECK.due("RESET", 0, x.socket(5, 1));
        x.tick(20);
        CHECK.due("RUN since 12", 12, x.socket(5, 1));
        CHECK.due("as the other one", 12, x.socket(6, 1));
        x.tick(100);
        CHECK.due("RUN for long", 112, x.socket(5, 1));
    }

    private static void countsAtFirst() {
        CHECK.sentence("A SOCKET has BOUGHT (0: how many bytes and MARKS it may send yet), SOLD (0: how many may come to it yet), a BUFFER (24; what came), QUIET.");
        SpaceLinks x = new SpaceLinks();
        x.plug(32, 33);
        for (int what = 5; what <= 8; what++) {
            CHECK.due("socket(32, " + what + ") at first", 0, x.socket(32, what));
        }
        x.hold(1, true);
        x.tick(10);
        Check.send(x, 0, new int[60]);
        x.tick(60);
        CHECK.due("24 are in the BUFFER", 24, x.socket(33, 7));
        CHECK.due("the last one", 0, x.buffer(33, 23));
        CHECK.due("and no more", -1, x.buffer(33, 24));
        CHECK.due("none may be sent", 0, x.socket(32, 5));
        CHECK.due("none may come", 0, x.socket(33, 6));
        CHECK.due("it waits in the QUEUE", 37, x.endOf(0, 0));
        CHECK.due("nobody FELL", 0, x.look(12));
    }

    private static void fallsFromThreeToFive() {
        CHECK.sentence("As it leaves 3 to 5 for RESET or OFF (it FALLS)");
        int[] ticks = {0, 1, 2, 5, 6, 7, 8, 20};
        int[] states = {1, 1, 2, 2, 3, 4, 5, 5};
        for (int k = 0; k < ticks.length; k++) {
            SpaceLinks x = new SpaceLinks();
            x.plug(32, 33);
            if (ticks[k] > 0) {
                x.tick(ticks[k]);
            }
            CHECK.due("STATE at " + ticks[k], states[k], x.socket(32, 0));
            int lines = x.look(17);
            x.turn(32, false);
            CHECK.due("FELL from " + states[k], states[k] >= 3 ? 1 : 0, x.socket(32, 10));
            CHECK.due("a line from " + states[k], states[k] >= 3 ? 1 : 0, x.look(17) - lines);
            x.unplug(33);
            CHECK.due("the other one FELL from " + states[k], states[k] >= 3 ? 1 : 0, x.socket(33, 10));
            CHECK.due("OFF does not fall", states[k] >= 3 ? 1 : 0, x.socket(32, 10));
        }
    }

    private static void nothingIsBoughtOrOwed() {
        CHECK.sentence("BOUGHT, SOLD are 0, TIMES that are to be sent by it are none, it owes no ERROR MARK");
        SpaceLinks x = Check.running(STAR);
        CHECK.due("BOUGHT in RUN", 24, x.socket(32, 5));
        CHECK.due("SOLD in RUN", 24, x.socket(32, 6));
        x.time(0);
        x.turn(32, false);
        CHECK.due("BOUGHT", 0, x.socket(32, 5));
        CHECK.due("SOLD", 0, x.socket(32, 6));
        CHECK.due("TIME", -1, x.socket(32, 15));

        SpaceLinks y = Check.running(STAR);
        y.watch(5);
        y.hold(1, true);
        Check.send(y, 0, Check.bytes(60, 2));
        y.tick(40);
        CHECK.due("owes", 1, y.socket(2, 14));
        y.turn(2, false);
        CHECK.due("owes no more", 0, y.socket(2, 14));
        CHECK.due("SOLD", 0, y.socket(2, 6));
    }

    private static void errorMarkIfAByteCame() {
        CHECK.sentence("did a byte come behind the latest MARK, an ERROR MARK comes into its BUFFER");
        SpaceLinks x = Check.running("cable e0 e1;");
        x.turn(33, false);
        CHECK.due("nothing came: no MARK", 0, x.socket(33, 7));

        x = Check.running("cable e0 e1;");
        x.hold(1, true);
        Check.send(x, 0, 5);
        x.tick(1);
        x.turn(33, false);
        CHECK.due("a byte that was sent did not come yet", 0, x.socket(33, 7));

        x = Check.running("cable e0 e1;");
        x.hold(1, true);
        Check.send(x, 0, 5);
        x.tick(2);
        x.turn(33, false);
        CHECK.due("a byte came", 2, x.socket(33, 7));
        CHECK.due("an ERROR MARK behind it", 257, x.buffer(33, 1));
        x.turn(33, true);
        x.tick(6);
        CHECK.due("STARTED", 3, x.socket(33, 0));
        x.turn(33, false);
        CHECK.due("that is the latest MARK now", 2, x.socket(33, 7));

        x = Check.running("cable e0 e1;");
        x.hold(1, true);
        Check.send(x, 0, 5);
        x.tick(3);
        x.turn(33, false);
        CHECK.due("the MARK came, too: no other one", 2, x.socket(33, 7));
        CHECK.due("the END MARK", 256, x.buffer(33, 1));

        x = Check.running("cable e0 e1;");
        Check.send(x, 0, 5, 6, 7);
        x.tick(3);
        CHECK.due("the bytes that came are taken", 0, x.socket(33, 7));
        x.turn(33, false);
        CHECK.due("the ERROR MARK comes all the same", 257, x.buffer(33, 0));
        CHECK.due("none at the one that sent", 0, x.socket(32, 7));
    }

    private static void errorMarkBeyondTheBuffer() {
        CHECK.sentence("(beyond the 24, too)");
        SpaceLinks x = Check.running("cable e0 e1;");
        x.hold(1, true);
        Check.send(x, 0, new int[60]);
        x.tick(60);
        CHECK.due("full", 24, x.socket(33, 7));
        x.broken(33, true);
        x.tick(1);
        CHECK.due("and one more", 25, x.socket(33, 7));
        CHECK.due("an ERROR MARK", 257, x.buffer(33, 24));
        CHECK.due("behind it", -1, x.buffer(33, 25));
        CHECK.due("all BUFFERS", 25, x.look(15));
        x.hold(1, false);
        x.tick(25);
        CHECK.due("it is taken last", 24, x.packet(1, 0, 0));
        CHECK.due("not WHOLE", 0, x.packet(1, 0, 1));
        CHECK.due("BUFFER", 0, x.socket(33, 7));
    }

    private static void inputSpills() {
        CHECK.sentence("the INPUT that is ROUTED to it is SPILLING (nobody is ROUTED to it then)");
        SpaceLinks x = Check.running(STAR);
        Check.send(x, 0, Check.bytes(30, 2));
        Check.send(x, 1, Check.bytes(30, 3));
        x.tick(4);
        CHECK.due("ROUTED", 2, x.input(1, 1));
        x.turn(2, false);
        CHECK.due("SPILLING", 2, x.input(1, 0));
        CHECK.due("to none", -1, x.input(1, 1));
        CHECK.due("nobody to it", -1, x.input(2, 3));
        CHECK.due("as INPUT it goes on", 1, x.input(2, 0));
        CHECK.due("to", 3, x.input(2, 1));
        CHECK.due("INPUT 3 is FREE", 0, x.input(3, 0));
        x.unplug(34);
        CHECK.due("INPUT 2 is SPILLING, too", 2, x.input(2, 0));
        CHECK.due("nobody to 3", -1, x.input(3, 3));
    }

    private static void queueLosesItsPacket() {
        CHECK.sentence("the QUEUE of an END of which a byte was sent behind the latest MARK loses what is ahead to its first MARK (with it; SPILLED)");
        int[] sent = {0, 1, 2, 3, 4, 5, 6, 7};
        int[] left = {8, 4, 4, 4, 4, 0, 0, 0};
        int[] spilled = {0, 1, 1, 1, 0, 1, 1, 1};
        for (int k = 0; k < sent.length; k++) {
            SpaceLinks x = Check.running("cable e0 e1;");
            Check.send(x, 0, 1, 2, 3);
            Check.send(x, 0, 4, 5, 6);
            for (int t = 0; t < sent[k]; t++) {
                x.tick(1);
            }
            CHECK.due("sent", sent[k], x.socket(32, 12));
            x.turn(32, false);
            CHECK.due("QUEUE with " + sent[k] + " sent", left[k], x.endOf(0, 0));
            CHECK.due("SPILLED with " + sent[k] + " sent", spilled[k], x.endOf(0, 8));
        }
        SpaceLinks x = Check.running("cable e0 e1;");
        Check.send(x, 0, new int[119]);
        x.tick(1);
        CHECK.due("QUEUE", 119, x.endOf(0, 0));
        x.broken(32, true);
        x.tick(1);
        CHECK.due("all is lost", 0, x.endOf(0, 0));
        CHECK.due("one packet", 1, x.endOf(0, 8));
        CHECK.due("a full one has room again", 120, Check.send(x, 0, new int[119]));
    }
}
