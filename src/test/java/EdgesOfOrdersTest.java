import java.util.Arrays;

/** Section 2, part (c), sentence by sentence: what an ORDER must be, and what an END takes. */
public final class EdgesOfOrdersTest {
    private static final Check CHECK = new Check();
    private static final String STAR = "cable 0.1 e0;cable 0.2 e1;cable 0.3 e2;";

    public static void main(String[] args) {
        doneAsItsMarkGoes();
        justTheseBytes();
        tableAddress();
        tablePorts();
        tableHead();
        portNumber();
        portOnOrOff();
        ifItWasNotSo();
        ofItsOwnPort();
        time();
        withAnEndMark();
        elseRefused();
        firstSixBytes();
        holds();
        keepsForty();
        marks();
        keepsSix();
        CHECK.finish();
    }

    private static SpaceLinks ordered(int... order) {
        SpaceLinks x = Check.running(STAR);
        Check.send(x, 0, order);
        x.tick(order.length + 2);
        return x;
    }

    private static void written(int... order) {
        SpaceLinks x = ordered(order);
        String name = Arrays.toString(order);
        CHECK.due("WRITTEN " + name, 1, x.router(0, 10));
        CHECK.due("not REFUSED " + name, 0, x.router(0, 11));
        CHECK.due("log of " + name, 9, x.log(0, 1));
    }

    /** It is REFUSED, and nothing is done: no TABLE, no PORT that was turned, no other TIME. */
    private static void refused(int... order) {
        SpaceLinks x = Check.running(STAR);
        x.time(1);
        x.table(0, 33, 6, true);
        x.turn(7, false);
        x.tick(5);
        Check.send(x, 0, order);
        x.tick(order.length + 2);
        String name = Arrays.toString(order);
        CHECK.due("REFUSED " + name, 1, x.router(0, 11));
        CHECK.due("not WRITTEN " + name, 0, x.router(0, 10));
        CHECK.due("TAKEN " + name, 1, x.router(0, 5));
        CHECK.due("log of " + name, 10, x.log(0, 1));
        CHECK.due("TABLES behind " + name, 1, x.router(0, 9));
        CHECK.due("the TABLE behind " + name, 262, x.tableOf(0, 33));
        CHECK.due("TIME behind " + name, 1, x.router(0, 1));
        for (int port = 1; port <= 7; port++) {
            CHECK.due("ON " + port + " behind " + name, port == 7 ? 0 : 1, x.socket(port, 4));
        }
        CHECK.due("nobody FELL behind " + name, 0, x.look(12));
    }

    private static void doneAsItsMarkGoes() {
        CHECK.sentence("An ORDER is done as its MARK goes");
        SpaceLinks x = Check.running(STAR);
        Check.send(x, 0, 0, 1, 40, 4, 1);
        x.tick(6);
        CHECK.due("all but its MARK came", 0, x.tableOf(0, 40));
        CHECK.due("SPILLING", 2, x.input(1, 0));
        x.tick(1);
        CHECK.due("its MARK goes", 260, x.tableOf(0, 40));
    }

    private static void justTheseBytes() {
        CHECK.sentence("with an END MARK, behind the 0 are just:");
        refused(0);
        refused(0, 0);
        refused(0, 1);
        refused(0, 1, 40);
        refused(0, 1, 40, 4);
        written(0, 1, 40, 4, 1);
        refused(0, 1, 40, 4, 1, 1);
        refused(0, 2);
        refused(0, 2, 2);
        written(0, 2, 2, 0);
        refused(0, 2, 2, 0, 0);
        refused(0, 2, 2, 0, 0, 0);
        written(0, 3);
        refused(0, 3, 0);
        refused(0, 3, 3, 3);
        refused(0, 4);
        refused(0, 255);
        refused(0, 4, 40, 4, 1);
        refused(0, 0, 40, 4, 1);
        refused(0, 3, 2, 0);
        refused(0, 2, 40, 4, 1);
        refused(0, 1, 2, 0);
        refused(0, 0, 3);
    }

    private static void tableAddress() {
        CHECK.sentence("1 A P G: the TABLE for A (32 .. 95)");
        refused(0, 1, 0, 4, 1);
        refused(0, 1, 31, 4, 1);
        CHECK.due("32", 260, ordered(0, 1, 32, 4, 1).tableOf(0, 32));
        CHECK.due("95", 260, ordered(0, 1, 95, 4, 1).tableOf(0, 95));
        refused(0, 1, 96, 4, 1);
        refused(0, 1, 255, 4, 1);
        CHECK.due("of no other ROUTER", 0, ordered(0, 1, 32, 4, 1).router(1, 9));
    }

    private static void tablePorts() {
        CHECK.sentence("has PORTS P (a set, even, as table() has it)");
        refused(0, 1, 40, 1, 1);
        refused(0, 1, 40, 3, 0);
        refused(0, 1, 40, 255, 1);
        refused(0, 1, 33, 5, 1);
        CHECK.due("PORT 1", 2, ordered(0, 1, 40, 2, 0).tableOf(0, 40));
        CHECK.due("PORT 7", 128, ordered(0, 1, 40, 128, 0).tableOf(0, 40));
        CHECK.due("all PORTS", 254, ordered(0, 1, 40, 254, 0).tableOf(0, 40));
        SpaceLinks x = Check.running(STAR);
        x.table(0, 40, 6, true);
        Check.send(x, 0, 0, 1, 40, 0, 1);
        x.tick(7);
        CHECK.due("0: none any more", 0, x.tableOf(0, 40));
        CHECK.due("TABLES", 0, x.router(0, 9));
        CHECK.due("WRITTEN", 1, x.router(0, 10));
    }

    private static void tableHead() {
        CHECK.sentence("the HEAD goes, if G is 1 (0: it stays)");
        CHECK.due("1", 260, ordered(0, 1, 40, 4, 1).tableOf(0, 40));
        CHECK.due("0", 4, ordered(0, 1, 40, 4, 0).tableOf(0, 40));
        refused(0, 1, 40, 4, 2);
        refused(0, 1, 40, 4, 255);
        refused(0, 1, 33, 0, 2);
    }

    private static void portNumber() {
        CHECK.sentence("2 p o: PORT p (1 .. 7) is turned ON (o 1), off (0) by hand");
        refused(0, 2, 0, 0);
        refused(0, 2, 8, 0);
        refused(0, 2, 255, 0);
        for (int port = 1; port <= 7; port++) {
            SpaceLinks x = ordered(0, 2, port, 0);
            CHECK.due("WRITTEN, PORT " + port, 1, x.router(0, 10));
            for (int other = 1; other <= 7; other++) {
                CHECK.due("PORT " + other, other == port ? 0 : 1, x.socket(other, 4));
                CHECK.due("of another ROUTER", 1, x.socket(8 + other, 4));
            }
        }
    }

    private static void portOnOrOff() {
        CHECK.sentence("2 p o: PORT p (1 .. 7) is turned ON (o 1), off (0) by hand");
        refused(0, 2, 2, 2);
        refused(0, 2, 2, 255);
        SpaceLinks x = ordered(0, 2, 2, 0);
        CHECK.due("off", 0, x.socket(2, 4));
        CHECK.due("OFF at once", 0, x.socket(2, 0));
        CHECK.due("FELL", 1, x.socket(2, 10));
        CHECK.due("turn() finds it so", false, x.turn(2, false));
        Check.send(x, 0, 0, 2, 2, 1);
        x.tick(6);
        CHECK.due("ON", 1, x.socket(2, 4));
        CHECK.due("RESET at once", 1, x.socket(2, 0));
        CHECK.due("WRITTEN", 2, x.router(0, 10));
    }

    private static void ifItWasNotSo() {
        CHECK.sentence("if it was not so (also that by which it came)");
        SpaceLinks x = ordered(0, 2, 2, 1);
        CHECK.due("ON already: WRITTEN", 1, x.router(0, 10));
        CHECK.due("ON already: RUN", 5, x.socket(2, 0));
        CHECK.due("ON already: AGE goes on", x.look(0) - 8, x.socket(2, 1));
        x.turn(2, false);
        x.tick(3);
        Check.send(x, 0, 0, 2, 2, 0);
        x.tick(6);
        CHECK.due("off already: WRITTEN", 2, x.router(0, 10));
        CHECK.due("off already: FELL by hand alone", 1, x.socket(2, 10));
        CHECK.due("off already: AGE goes on", 9, x.socket(2, 1));
    }

    private static void ofItsOwnPort() {
        CHECK.sentence("(also that by which it came)");
        SpaceLinks x = ordered(0, 2, 1, 0);
        CHECK.due("off", 0, x.socket(1, 4));
        CHECK.due("OFF", 0, x.socket(1, 0));
        CHECK.due("WRITTEN", 1, x.router(0, 10));
        CHECK.due("FREE", 0, x.input(1, 0));
        CHECK.due("nothing was broken off", 0, x.socket(1, 7));
        SpaceLinks y = ordered(0, 2, 1, 1);
        CHECK.due("ON already", 5, y.socket(1, 0));
    }

    private static void time() {
        CHECK.sentence("or 3: TIME of the ROUTER is 0. WRITTEN counts.");
        SpaceLinks x = Check.running(STAR);
        x.time(1);
        x.tick(3);
        CHECK.due("TIME", 1, x.router(0, 1));
        Check.send(x, 0, 0, 3);
        x.tick(4);
        CHECK.due("TIME is 0", 0, x.router(0, 1));
        CHECK.due("no step", 1, x.router(0, 2));
        CHECK.due("no jump", 0, x.router(0, 3));
        CHECK.due("TIME of an END stays", 1, x.endOf(2, 5));
        Check.send(x, 0, 0, 3);
        x.tick(4);
        CHECK.due("0 already: WRITTEN", 2, x.router(0, 10));
        x.time(1);
        x.tick(2);
        CHECK.due("2 behind 0 is a jump", 1, x.router(0, 3));
    }

    private static void withAnEndMark() {
        CHECK.sentence("with an END MARK, behind the 0 are just");
        int[][] orders = {{0, 1, 40, 4, 1}, {0, 2, 2, 0}, {0, 3}};
        for (int[] order : orders) {
            // Its last byte is on the CABLE as that breaks off one TICK later: the END MARK never comes.
            SpaceLinks x = Check.running(STAR);
            Check.send(x, 0, order);
            x.tick(order.length + 1);
            CHECK.due("SPILLING", 2, x.input(1, 0));
            x.turn(1, false);
            CHECK.due("an ERROR MARK", 257, x.buffer(1, 0));
            x.tick(1);
            CHECK.due("REFUSED", 1, x.router(0, 11));
            CHECK.due("not WRITTEN", 0, x.router(0, 10));
            CHECK.due("no TABLE", 0, x.router(0, 9));
            CHECK.due("PORT 2 is ON", 1, x.socket(2, 4));
            CHECK.due("FREE", 0, x.input(1, 0));
        }
    }

    private static void elseRefused() {
        CHECK.sentence("Else REFUSED counts, nothing is done.");
        SpaceLinks x = Check.running(STAR);
        for (int k = 1; k <= 5; k++) {
            Check.send(x, 0, 0, 9, k);
            x.tick(6);
            CHECK.due("REFUSED", k, x.router(0, 11));
            CHECK.due("WRITTEN", 0, x.router(0, 10));
        }
        CHECK.due("of another ROUTER", 0, x.router(1, 11));
    }

    private static void firstSixBytes() {
        CHECK.sentence("(Of each ORDER the first 6 bytes are kept.)");
        refused(0, 1, 40, 4, 1, 0);
        refused(0, 1, 40, 4, 1, 0, 0);
        refused(Check.bytes(50, 0, 1, 40, 4, 1));
        refused(Check.bytes(98, 0, 3));
        // Those of one ORDER are not those of the next.
        SpaceLinks x = Check.running(STAR);
        Check.send(x, 0, Check.bytes(20, 0, 1, 40, 4, 1));
        Check.send(x, 0, 0, 3);
        Check.send(x, 0, 0, 1, 41, 4, 1);
        x.tick(40);
        CHECK.due("REFUSED", 1, x.router(0, 11));
        CHECK.due("WRITTEN", 2, x.router(0, 10));
        CHECK.due("TABLE", 260, x.tableOf(0, 41));
        CHECK.due("none for 40", 0, x.tableOf(0, 40));
    }

    private static void holds() {
        CHECK.sentence("ENDS by number: one that does not HOLD takes the first of its BUFFER");
        SpaceLinks x = Check.running("cable e0 e1;");
        Check.send(x, 0, 5, 6);
        x.hold(1, true);
        x.tick(10);
        CHECK.due("it HOLDS: BUFFER", 3, x.socket(33, 7));
        x.hold(1, false);
        int[] left = {2, 1, 0, 0};
        for (int k = 0; k < left.length; k++) {
            x.tick(1);
            CHECK.due("one a TICK", left[k], x.socket(33, 7));
            CHECK.due("bytes", k < 2 ? k + 1 : 0, x.endOf(1, 3));
        }
        CHECK.due("an empty BUFFER is nothing", 1, x.endOf(1, 1));

        SpaceLinks y = Check.running("cable e0 e1;");
        y.hold(1, true);
        Check.send(y, 0, 5, 6);
        y.tick(10);
        y.unplug(33);
        y.hold(1, false);
        y.tick(3);
        CHECK.due("OFF, it takes what came", 1, y.endOf(1, 2));
    }

    private static void keepsForty() {
        CHECK.sentence("a byte comes to the packet that comes in (the first 40 are kept, all counted)");
        int[] lengths = {1, 39, 40, 41, 119};
        for (int length : lengths) {
            SpaceLinks x = Check.running("cable e0 e1;");
            int[] packet = new int[length];
            for (int k = 0; k < length; k++) {
                packet[k] = 100 + k;
            }
            Check.send(x, 0, packet);
            x.tick(length + 1 > 100 ? 100 : length + 1);
            if (length + 1 > 100) {
                x.tick(length + 1 - 100);
            }
            // CREDIT goes by the other side: a byte a TICK comes in.
            CHECK.due("all are counted as they come", length, x.endOf(1, 3));
            x.tick(1);
            CHECK.due("all are counted", length, x.packet(1, 0, 0));
            CHECK.due("the last that is kept", 100 + Math.min(length, 40) - 1, x.byteOf(1, 0, Math.min(length, 40) - 1));
            CHECK.due("and no more", -1, x.byteOf(1, 0, Math.min(length, 40)));
            CHECK.due("none comes in", 0, x.endOf(1, 3));
        }
    }

    private static void marks() {
        CHECK.sentence("a MARK ends it: it is RECEIVED (the latest 6 are kept), WHOLE (256) or not (257).");
        SpaceLinks x = Check.running("cable e0 e1;");
        Check.send(x, 0, 5);
        x.tick(2);
        CHECK.due("not yet", 0, x.endOf(1, 1));
        x.tick(1);
        CHECK.due("RECEIVED", 1, x.endOf(1, 1));
        CHECK.due("256: WHOLE", 1, x.packet(1, 0, 1));
        Check.send(x, 0, 5, 6, 7);
        x.tick(2);
        x.turn(32, false);
        x.tick(2);
        CHECK.due("RECEIVED", 2, x.endOf(1, 1));
        CHECK.due("257: not WHOLE", 0, x.packet(1, 0, 1));
        CHECK.due("the byte that came", 1, x.packet(1, 0, 0));
        CHECK.due("WHOLE ones", 1, x.endOf(1, 2));
        SpaceLinks y = Check.running(STAR);
        Check.send(y, 0, 2);
        y.tick(4);
        CHECK.due("a MARK alone: a packet of none", 1, y.endOf(1, 2));
        CHECK.due("bytes", 0, y.packet(1, 0, 0));
        CHECK.due("byte 0", -1, y.byteOf(1, 0, 0));
    }

    private static void keepsSix() {
        CHECK.sentence("it is RECEIVED (the latest 6 are kept)");
        SpaceLinks x = Check.running("cable e0 e1;");
        for (int k = 1; k <= 14; k++) {
            Check.send(x, 0, k);
            x.tick(4);
            for (int i = 0; i < 8; i++) {
                boolean isKept = i < 6 && i < k;
                CHECK.due("packet " + i + " of " + k, isKept ? 1 : -1, x.packet(1, i, 0));
                CHECK.due("byte of packet " + i + " of " + k, isKept ? k - i : -1, x.byteOf(1, i, 0));
            }
        }
        CHECK.due("all are counted", 14, x.endOf(1, 1));
    }
}
