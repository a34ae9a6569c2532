/** Section 4 behind TEXT, sentence by sentence: WAY, LASTS, SPREAD, LOOPS, SOUND, THE LOG, THE IMAGE. */
public final class EdgesOfWaysTest {
    private static final Check CHECK = new Check();
    private static final int[] NOTHING = {};

    public static void main(String[] args) {
        fewestCables();
        routersBetween();
        leastPort();
        isAPathAddress();
        lastsAtMost();
        thoughtLeavesNothing();
        spreadByAnyPorts();
        spreadInAnyState();
        spreadAsTheHeadStays();
        loopsToItself();
        soundInRun();
        soundAtEachTick();
        latestSixty();
        logOfEachKind();
        aheadOfFell();
        imageMoreThanOnce();
        imageWithoutTheTape();
        CHECK.finish();
    }

    private static SpaceLinks laid(String text) {
        SpaceLinks x = new SpaceLinks();
        CHECK.due("text", true, Check.text(x, text) > 0);
        return x;
    }

    private static void way(SpaceLinks x, int from, int to, int... ports) {
        String name = "way(" + from + ", " + to + ", ";
        CHECK.due(name + "NONE)", ports.length, x.way(from, to, -1));
        for (int i = 0; i < ports.length; i++) {
            CHECK.due(name + i + ")", ports[i], x.way(from, to, i));
        }
        CHECK.due(name + "behind the last)", -1, x.way(from, to, ports.length));
        for (int i : Check.FAR) {
            CHECK.due(name + i + ")", -1, x.way(from, to, i));
        }
    }

    private static void noWay(SpaceLinks x, int from, int to) {
        for (int i = -2; i < 5; i++) {
            CHECK.due("way(" + from + ", " + to + ", " + i + ")", -1, x.way(from, to, i));
        }
    }

    private static void fewestCables() {
        CHECK.sentence("WAY from an END to another one: the fewest CABLES (WHOLE or not, in any STATE)");
        SpaceLinks x = laid("cable e0 0.1;cable 0.2 1.1;cable 1.2 2.1;cable 2.2 3.1;cable 3.2 e1;cable 0.7 3.7;");
        way(x, 0, 1, 7, 2);
        x.broken(7, true);
        way(x, 0, 1, 7, 2);
        x.turn(7, false);
        way(x, 0, 1, 7, 2);
        x.tick(30);
        way(x, 0, 1, 7, 2);
        x.broken(32, true);
        way(x, 0, 1, 7, 2);
        way(x, 1, 0, 7, 1);
        x.broken(33, true);
        way(x, 0, 1, 7, 2);
        way(x, 1, 0, 7, 1);
        x.unplug(7);
        way(x, 0, 1, 2, 2, 2, 2);
        way(x, 1, 0, 1, 1, 1, 1);
        x.unplug(10);
        noWay(x, 0, 1);
        noWay(x, 1, 0);
        noWay(x, 0, 0);
        noWay(x, 0, 5);
        noWay(x, 5, 0);
    }

    private static void routersBetween() {
        CHECK.sentence("by ROUTERS between;");
        way(laid("cable e0 e1;"), 0, 1, NOTHING);
        SpaceLinks direct = laid("cable e6 e7;");
        way(direct, 7, 6, NOTHING);
        direct.broken(38, true);
        way(direct, 7, 6, NOTHING);
        way(direct, 6, 7, NOTHING);
        way(laid("cable e0 0.1;cable 0.7 e1;"), 0, 1, 7);
        // No END is between: 1 is at its CABLE's end, as 2 is.
        SpaceLinks x = laid("cable e0 e1;cable e2 0.1;cable 0.2 e3;");
        noWay(x, 0, 2);
        noWay(x, 2, 0);
        way(x, 2, 3, 2);
        // A CABLE from a ROUTER to itself leads nowhere.
        SpaceLinks y = laid("cable e0 0.1;cable 0.2 0.3;cable 0.4 1.4;cable 1.1 1.2;cable 1.7 e1;");
        way(y, 0, 1, 4, 7);
    }

    private static void leastPort() {
        CHECK.sentence("of several the one with the least PORT by which it leaves the first ROUTER, then the second one ..");
        SpaceLinks x = laid("cable e0 0.7;cable 0.6 1.1;cable 0.5 2.1;cable 1.2 3.1;cable 2.7 3.2;cable 2.6 3.3;cable 3.7 e1;");
        way(x, 0, 1, 5, 6, 7);
        way(x, 1, 0, 1, 1, 7);
        x.unplug(22);
        way(x, 0, 1, 5, 7, 7);
        x.unplug(5);
        way(x, 0, 1, 6, 2, 7);
        // Two CABLES side by side.
        SpaceLinks y = laid("cable e0 0.1;cable 0.6 1.2;cable 0.2 1.6;cable 1.1 e1;");
        way(y, 0, 1, 2, 1);
        way(y, 1, 0, 2, 1);
        y.unplug(2);
        way(y, 0, 1, 6, 1);
    }

    private static void isAPathAddress() {
        CHECK.sentence("its PORTS are a path address.");
        SpaceLinks x = Check.running("cable e0 0.1;cable 0.2 1.1;cable 1.2 2.1;cable 2.2 3.1;cable 3.2 e1;");
        int ports = x.way(0, 1, -1);
        int[] packet = new int[ports + 1];
        for (int i = 0; i < ports; i++) {
            packet[i] = x.way(0, 1, i);
        }
        packet[ports] = 99;
        Check.send(x, 0, packet);
        x.tick(40);
        CHECK.due("it came", 1, x.endOf(1, 2));
        CHECK.due("all HEADS are gone", 1, x.packet(1, 0, 0));
        CHECK.due("the byte", 99, x.byteOf(1, 0, 0));
    }

    private static void lastsAtMost() {
        CHECK.sentence("LASTS: how many TICKS till an END has RECEIVED n packets more (400 at most).");
        // Two packets that WAIT are CUT, 201 TICKS each; then the third one comes, 406 TICKS from here.
        SpaceLinks x = Check.running("cable e0 0.1;cable e1 0.2;");
        x.watch(200);
        Check.send(x, 0, 5, 1);
        Check.send(x, 0, 5, 1);
        Check.send(x, 0, 2, 9);
        x.tick(5);
        CHECK.due("401", -1, x.lasts(1, 1));
        x.tick(1);
        CHECK.due("400", 400, x.lasts(1, 1));
        x.tick(1);
        CHECK.due("399", 399, x.lasts(1, 1));
        for (int k = 0; k < 3; k++) {
            x.tick(100);
        }
        x.tick(98);
        CHECK.due("1", 1, x.lasts(1, 1));
        x.tick(1);
        CHECK.due("it came", 1, x.endOf(1, 1));
        CHECK.due("n more, not in all", -1, x.lasts(1, 1));
        SpaceLinks y = Check.running("cable e0 e1;");
        Check.send(y, 0, 5, 6, 7);
        y.tick(2);
        int until = y.lasts(1, 1);
        CHECK.due("3", 3, until);
        y.turn(32, false);
        CHECK.due("one that is not WHOLE is RECEIVED, too", 1, y.lasts(1, 1));
    }

    private static void thoughtLeavesNothing() {
        CHECK.sentence("IN THOUGHT (nothing stays)");
        SpaceLinks x = Check.running("cable e0 0.1;cable e1 0.2;cable e2 0.3;");
        x.odds(3);
        x.state(5);
        x.time(0);
        Check.send(x, 0, Check.bytes(30, 2));
        Check.send(x, 2, 0, 1, 40, 4, 1);
        x.tick(4);
        x.feed(1, 2, 3, 4, 5);
        CHECK.changesNothing("lasts", x, () -> {
            x.lasts(1, 1);
            x.lasts(1, 20);
            x.lasts(7, 1);
        });
        CHECK.due("no IMAGE is taken by it", false, x.image(false));
        CHECK.due("the same again", x.lasts(1, 1), x.lasts(1, 1));
    }

    private static void spreadByAnyPorts() {
        CHECK.sentence("all ENDS to which a packet with the HEAD A might come, by any PORTS that are MEANT");
        SpaceLinks x = laid("cable 0.1 e0;cable 0.2 e1;cable 0.3 e2;cable 0.4 e3;cable 0.5 e4;cable 0.6 e5;cable 0.7 e7;");
        CHECK.due("without a TABLE", 0, x.spread(0, 32));
        x.table(0, 32, 254, false);
        CHECK.due("all but END 6", 255 - 64, x.spread(0, 32));
        x.table(0, 95, 2, true);
        CHECK.due("END 0 alone", 1, x.spread(0, 95));
        x.table(0, 95, 128, true);
        CHECK.due("END 7 alone", 128, x.spread(0, 95));
        CHECK.due("of another ROUTER", 0, x.spread(1, 32));
        x.unplug(7);
        CHECK.due("a PORT without a CABLE", 0, x.spread(0, 95));
    }

    private static void spreadInAnyState() {
        CHECK.sentence("by CABLES as they are, in any STATE, as long as the HEAD stays");
        SpaceLinks x = laid("cable 0.1 1.1;cable 1.2 2.1;cable 2.2 3.1;cable 3.2 e5;table 0 40 stay 1;table 1 40 stay 2;"
                + "table 2 40 stay 2;table 3 40 stay 2;");
        CHECK.due("by all four", 32, x.spread(0, 40));
        CHECK.due("it does not loop", 0, x.loops(0, 40));
        x.turn(1, false);
        x.turn(37, false);
        x.broken(10, true);
        x.tick(20);
        CHECK.due("in any STATE", 32, x.spread(0, 40));
        x.broken(37, true);
        CHECK.due("by a CABLE to the END as it is, BROKEN", 32, x.spread(0, 40));
        CHECK.due("from the ROUTER next to it", 32, x.spread(3, 40));
        x.table(2, 40, 0, false);
        CHECK.due("a ROUTER without a TABLE", 0, x.spread(0, 40));
        CHECK.due("behind that", 32, x.spread(3, 40));
    }

    private static void spreadAsTheHeadStays() {
        CHECK.sentence("a HEAD that goes by a CABLE to another ROUTER comes to no END by it (one that goes to an END comes there).");
        SpaceLinks x = laid("cable 0.1 1.1;cable 0.2 e0;cable 1.2 e1;table 0 40 go 1 2;table 1 40 go 2;");
        CHECK.due("to END 0 alone", 1, x.spread(0, 40));
        CHECK.due("from ROUTER 1", 2, x.spread(1, 40));
        x.table(0, 40, 6, false);
        CHECK.due("the HEAD stays", 3, x.spread(0, 40));
        x.table(0, 40, 2, true);
        CHECK.due("by that CABLE alone", 0, x.spread(0, 40));
        CHECK.due("it does not loop", 0, x.loops(0, 40));
    }

    private static void loopsToItself() {
        CHECK.sentence("It LOOPS, if by these ways a ROUTER comes to itself again.");
        SpaceLinks x = laid("cable 0.1 1.1;cable 1.2 2.1;cable 2.2 3.1;cable 3.2 1.3;cable 0.2 0.3;"
                + "table 0 40 stay 1;table 1 40 stay 2;table 2 40 stay 2;table 3 40 stay 2;");
        CHECK.due("behind ROUTER 0, not by it", 1, x.loops(0, 40));
        CHECK.due("ROUTER 3", 1, x.loops(3, 40));
        x.table(3, 40, 4, true);
        CHECK.due("a HEAD that goes", 0, x.loops(0, 40));
        x.table(3, 40, 0, true);
        CHECK.due("no TABLE", 0, x.loops(0, 40));
        x.table(0, 41, 4, false);
        CHECK.due("by its own CABLE", 1, x.loops(0, 41));
        x.table(0, 41, 4, true);
        CHECK.due("by its own CABLE, the HEAD goes", 0, x.loops(0, 41));
        x.unplug(2);
        x.table(0, 41, 4, false);
        CHECK.due("without the CABLE", 0, x.loops(0, 41));
    }

    private static void soundInRun() {
        CHECK.sentence("SOUND is a CABLE of which both SOCKETS are in RUN");
        SpaceLinks x = new SpaceLinks();
        x.plug(32, 33);
        for (int t = 1; t <= 12; t++) {
            x.tick(1);
            CHECK.due("at " + t, t < 8 ? -1 : 1, x.sound(32));
            CHECK.due("the other side, at " + t, t < 8 ? -1 : 1, x.sound(33));
        }
        x.broken(32, true);
        CHECK.due("BROKEN, but in RUN", 1, x.sound(32));
        x.tick(1);
        CHECK.due("SILENT", -1, x.sound(32));
        SpaceLinks y = Check.running("cable e0 e1;");
        y.turn(33, false);
        CHECK.due("one alone is in RUN", -1, y.sound(32));
        CHECK.due("the one that is not", -1, y.sound(33));
    }

    private static void soundAtEachTick() {
        CHECK.sentence("BOUGHT of each, 8 for CREDIT that it was sent, and one for the byte or MARK that it sent (in the latest (d)) are together SOLD of the other one.");
        SpaceLinks x = Check.running("cable e0 0.1;cable e1 0.2;");
        Check.send(x, 0, Check.bytes(50, 2));
        Check.send(x, 1, Check.bytes(50, 1));
        boolean isByte = false;
        boolean isCredit = false;
        for (int t = 0; t < 70; t++) {
            x.tick(1);
            int ahead = (x.socket(1, 9) == 259 ? 8 : 0) + (x.socket(32, 9) < 258 ? 1 : 0);
            CHECK.due("together, at " + t, x.socket(1, 6), x.socket(32, 5) + ahead);
            CHECK.due("SOUND at " + t, 1, x.sound(1));
            isByte |= x.socket(32, 9) < 258;
            isCredit |= x.socket(1, 9) == 259;
        }
        CHECK.due("bytes and CREDIT were sent", true, isByte && isCredit);
    }

    private static void latestSixty() {
        CHECK.sentence("THE LOG (the latest 60)");
        SpaceLinks x = new SpaceLinks();
        x.plug(32, 33);
        x.turn(33, false);
        // Alone it FALLS every twelve TICKS: a line each.
        for (int lines = 1; lines <= 65; lines++) {
            x.tick(12);
            CHECK.due("lines", lines, x.look(17));
            CHECK.due("the latest", 12 * lines, x.log(0, 0));
            int kept = Math.min(lines, 60);
            CHECK.due("the first that is kept", 12 * (lines - kept + 1), x.log(kept - 1, 0));
            CHECK.due("none behind it", -1, x.log(kept, 0));
        }
    }

    private static void line(SpaceLinks x, int tick, int what, int socket) {
        CHECK.due("TICK", tick, x.log(0, 0));
        CHECK.due("what", what, x.log(0, 1));
        CHECK.due("SOCKET", socket, x.log(0, 2));
    }

    private static void logOfEachKind() {
        CHECK.sentence("the SOCKET (4 to 6, 9, 10: the INPUT; 7, 8: the END's)");
        SpaceLinks x = new SpaceLinks();
        Check.text(x, "cable 2.1 e3;cable 2.2 e4;");
        x.tick(8);
        line(x, 8, 0, 36);
        x.tick(2);
        x.watch(5);
        Check.send(x, 3, 2, 9);
        x.tick(3);
        line(x, 12, 4, 17);
        x.tick(2);
        line(x, 15, 7, 36);
        Check.send(x, 3, 5, 9);
        x.tick(7);
        line(x, 22, 5, 17);
        x.tick(3);
        Check.send(x, 3, 9, 9);
        x.tick(2);
        line(x, 27, 6, 17);
        x.tick(5);
        Check.send(x, 3, 0, 3);
        x.tick(4);
        line(x, 36, 9, 17);
        Check.send(x, 3, 0, 4);
        x.tick(4);
        line(x, 40, 10, 17);
        Check.send(x, 3, 2, 9, 9, 9, 9);
        x.tick(4);
        x.turn(18, false);
        line(x, 44, 1, 18);
        // 36 is SILENT and FALLS in (b); END 4 takes the ERROR MARK in (c).
        x.tick(1);
        line(x, 45, 8, 36);
        CHECK.due("FELL ahead of it", 1, x.log(1, 1));
        CHECK.due("SILENT ahead of that", 2, x.log(2, 1));
    }

    private static void aheadOfFell() {
        CHECK.sentence("2 SILENT (ahead of FELL), 3 SPOILED (likewise)");
        SpaceLinks x = Check.running("cable e0 e1;");
        x.broken(33, true);
        x.tick(1);
        int[] silent = {1, 2, 1, 2};
        int[] sockets = {33, 33, 32, 32};
        for (int i = 0; i < 4; i++) {
            CHECK.due("SILENT: line " + i, silent[i], x.log(i, 1));
            CHECK.due("SILENT: SOCKET of line " + i, sockets[i], x.log(i, 2));
        }
        CHECK.due("lines", 6, x.look(17));
        SpaceLinks y = Check.running("cable e0 e1;");
        y.odds(1000);
        y.tick(1);
        int[] spoiled = {1, 3, 1, 3};
        for (int i = 0; i < 4; i++) {
            CHECK.due("SPOILED: line " + i, spoiled[i], y.log(i, 1));
            CHECK.due("SPOILED: SOCKET of line " + i, sockets[i], y.log(i, 2));
        }
        CHECK.due("lines", 6, y.look(17));
    }

    private static void imageMoreThanOnce() {
        CHECK.sentence("as it was when it was taken; gone back to it may be more than once");
        SpaceLinks x = Check.running("cable e0 0.1;cable e1 0.2;");
        Check.send(x, 0, Check.bytes(30, 2));
        x.tick(7);
        x.image(true);
        CHECK.changesNothing("gone back at once", x, () -> x.image(false));
        for (int k = 0; k < 3; k++) {
            CHECK.changesNothing("gone back", x, () -> {
                x.tick(9);
                x.unplug(33);
                x.watch(99);
                x.table(1, 40, 2, true);
                Check.send(x, 1, 5);
                x.image(false);
            });
        }
    }

    private static void imageWithoutTheTape() {
        CHECK.sentence("all that is and was told (but THE TAPE, fault())");
        SpaceLinks x = new SpaceLinks();
        Check.text(x, "cable e0 9");
        x.feed(1, 2, 3, 4, 5);
        x.image(true);
        x.end(3);
        x.image(false);
        CHECK.due("THE TAPE stays as it is", 3, x.look(14));
        CHECK.due("FAULT", 2, x.fault(0));
        Check.text(x, "x");
        x.image(false);
        CHECK.due("FAULT stays as it is", 1, x.fault(0));
        CHECK.due("its place", 0, x.fault(1));
        CHECK.due("THE TAPE", 0, x.look(14));
        x.feed(0x63616263, 0, 0, 0, 0);
        x.image(false);
        CHECK.due("its bytes stay", 21, x.send(0));
    }
}
