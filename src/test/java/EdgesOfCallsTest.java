/** Promises 1 to 17, sentence by sentence: which calls are refused, and that nothing is done then. */
public final class EdgesOfCallsTest {
    private static final Check CHECK = new Check();
    private static final int[] NO_SOCKETS = {-1, 0, 8, 16, 24, 40, 41, Integer.MIN_VALUE, Integer.MAX_VALUE};
    private static final int[] NO_ENDS = {-1, 8, 32, 39, Integer.MIN_VALUE, Integer.MAX_VALUE};
    private static final int[] NO_ROUTERS = {-1, 4, 8, Integer.MIN_VALUE, Integer.MAX_VALUE};

    public static void main(String[] args) {
        newObject();
        plug();
        unplug();
        broken();
        turn();
        watch();
        odds();
        state();
        table();
        hold();
        tick();
        feed();
        end();
        send();
        sendWithoutRoom();
        text();
        fault();
        time();
        CHECK.finish();
    }

    private static void newObject() {
        CHECK.sentence("`SpaceLinks()`: No CABLES; WATCH is 20.");
        SpaceLinks x = new SpaceLinks();
        for (int what = 0; what <= 19; what++) {
            CHECK.due("look(" + what + ")", what == 4 ? 20 : 0, x.look(what));
        }
        for (int s = 1; s < 40; s++) {
            if (s >= 32 || s % 8 != 0) {
                CHECK.due("no CABLE at " + s, -1, x.socket(s, 2));
            }
        }
        CHECK.due("no IMAGE", false, x.image(false));
        CHECK.due("no line", -1, x.log(0, 0));
        SpaceLinks y = new SpaceLinks();
        y.plug(32, 33);
        CHECK.due("an object has its own CABLES", 0, x.look(1));
    }

    private static void plug() {
        CHECK.sentence("A CABLE joins two SOCKETS: true; false if there are none such, they are one, or one has one.");
        SpaceLinks x = new SpaceLinks();
        x.plug(34, 35);
        CHECK.changesNothing("plug", x, () -> {
            for (int s : NO_SOCKETS) {
                CHECK.due("plug(" + s + ", 32)", false, x.plug(s, 32));
                CHECK.due("plug(32, " + s + ")", false, x.plug(32, s));
                CHECK.due("plug(" + s + ", " + s + ")", false, x.plug(s, s));
            }
            CHECK.due("they are one", false, x.plug(32, 32));
            CHECK.due("the first has one", false, x.plug(34, 32));
            CHECK.due("the second has one", false, x.plug(32, 34));
            CHECK.due("both have one", false, x.plug(34, 35));
        });
        CHECK.due("two", true, x.plug(32, 33));
        CHECK.due("two of a ROUTER", true, x.plug(1, 7));
        CHECK.due("CABLES", 3, x.look(1));
    }

    private static void unplug() {
        CHECK.sentence("The CABLE of a SOCKET goes: the other SOCKET; NONE if there is none (such).");
        SpaceLinks x = new SpaceLinks();
        x.plug(34, 1);
        CHECK.changesNothing("unplug", x, () -> {
            for (int s : NO_SOCKETS) {
                CHECK.due("unplug(" + s + ")", -1, x.unplug(s));
            }
            CHECK.due("without a CABLE", -1, x.unplug(32));
        });
        CHECK.due("the other one", 1, x.unplug(34));
        CHECK.due("none any more", -1, x.unplug(34));
        CHECK.due("nor the other one", -1, x.unplug(1));
        x.plug(34, 1);
        CHECK.due("by the other side", 34, x.unplug(1));
        CHECK.due("CABLES", 0, x.look(1));
    }

    private static void broken() {
        CHECK.sentence("The CABLE of a SOCKET is BROKEN, or WHOLE again: true; false if it is so already, or there is none (such).");
        SpaceLinks x = new SpaceLinks();
        x.plug(34, 1);
        CHECK.changesNothing("broken", x, () -> {
            for (int s : NO_SOCKETS) {
                CHECK.due("broken(" + s + ", true)", false, x.broken(s, true));
                CHECK.due("broken(" + s + ", false)", false, x.broken(s, false));
            }
            CHECK.due("without a CABLE", false, x.broken(32, true));
            CHECK.due("without a CABLE, WHOLE", false, x.broken(32, false));
            CHECK.due("WHOLE already", false, x.broken(34, false));
            CHECK.due("WHOLE already, the other side", false, x.broken(1, false));
        });
        CHECK.due("BROKEN", true, x.broken(34, true));
        CHECK.due("BROKEN already", false, x.broken(34, true));
        CHECK.due("BROKEN already, the other side", false, x.broken(1, true));
        CHECK.due("WHOLE again", true, x.broken(1, false));
        CHECK.due("WHOLE", 1, x.socket(34, 3));
        x.broken(1, true);
        x.unplug(1);
        CHECK.due("gone", false, x.broken(1, false));
    }

    private static void turn() {
        CHECK.sentence("ON or off by hand: true; false if it is so already, or there is none such.");
        SpaceLinks x = new SpaceLinks();
        CHECK.changesNothing("turn", x, () -> {
            for (int s : NO_SOCKETS) {
                CHECK.due("turn(" + s + ", true)", false, x.turn(s, true));
                CHECK.due("turn(" + s + ", false)", false, x.turn(s, false));
            }
            CHECK.due("ON already", false, x.turn(32, true));
        });
        CHECK.due("off", true, x.turn(32, false));
        CHECK.due("off already", false, x.turn(32, false));
        CHECK.due("ON", true, x.turn(32, true));
        CHECK.due("ON already", false, x.turn(32, true));
    }

    private static void watch() {
        CHECK.sentence("WATCH (5 .. 200): true; false if it can't be.");
        SpaceLinks x = new SpaceLinks();
        int[] wrong = {Integer.MIN_VALUE, -5, -1, 0, 1, 4, 201, 255, 1000, Integer.MAX_VALUE};
        CHECK.changesNothing("watch", x, () -> {
            for (int ticks : wrong) {
                CHECK.due("watch(" + ticks + ")", false, x.watch(ticks));
            }
        });
        for (int ticks = 5; ticks <= 200; ticks++) {
            CHECK.due("watch(" + ticks + ")", true, x.watch(ticks));
            CHECK.due("WATCH", ticks, x.look(4));
        }
        CHECK.due("the same again", true, x.watch(200));
    }

    private static void odds() {
        CHECK.sentence("ODDS (0 .. 1000; 0 at first): true; false if it can't be.");
        SpaceLinks x = new SpaceLinks();
        CHECK.due("at first", 0, x.look(18));
        x.odds(7);
        int[] wrong = {Integer.MIN_VALUE, -1000, -1, 1001, 2000, Integer.MAX_VALUE};
        CHECK.changesNothing("odds", x, () -> {
            for (int v : wrong) {
                CHECK.due("odds(" + v + ")", false, x.odds(v));
            }
        });
        int[] right = {0, 1, 999, 1000, 1000};
        for (int v : right) {
            CHECK.due("odds(" + v + ")", true, x.odds(v));
            CHECK.due("ODDS", v, x.look(18));
        }
    }

    private static void state() {
        CHECK.sentence("STATE of DRAWS is told: what it was.");
        SpaceLinks x = new SpaceLinks();
        int[] states = {1, -1, Integer.MAX_VALUE, Integer.MIN_VALUE, 0, 5, 5};
        int was = 0;
        for (int v : states) {
            CHECK.due("state(" + v + ")", was, x.state(v));
            CHECK.due("STATE", v, x.look(19));
            was = v;
        }
    }

    private static void table() {
        CHECK.sentence("PORTS (a set, bits 1 .. 7; 0: none any more) of a TABLE, whether the HEAD goes: true; false if one can't be.");
        SpaceLinks x = new SpaceLinks();
        x.table(0, 40, 6, true);
        int[] noAddresses = {Integer.MIN_VALUE, -1, 0, 7, 31, 96, 255, Integer.MAX_VALUE};
        int[] noPorts = {Integer.MIN_VALUE, -256, -2, -1, 1, 3, 255, 256, 257, 258, 512, Integer.MAX_VALUE};
        CHECK.changesNothing("table", x, () -> {
            for (int r : NO_ROUTERS) {
                CHECK.due("table(" + r + ", 40, ..)", false, x.table(r, 40, 2, true));
                CHECK.due("table(" + r + ", 40, 0, ..)", false, x.table(r, 40, 0, false));
            }
            for (int address : noAddresses) {
                CHECK.due("table(0, " + address + ", ..)", false, x.table(0, address, 2, true));
                CHECK.due("table(0, " + address + ", 0, ..)", false, x.table(0, address, 0, true));
            }
            for (int ports : noPorts) {
                CHECK.due("table(0, 40, " + ports + ", ..)", false, x.table(0, 40, ports, false));
            }
        });
        for (int ports = 2; ports <= 254; ports += 2) {
            CHECK.due("table(3, 95, " + ports + ", ..)", true, x.table(3, 95, ports, ports % 4 == 0));
            CHECK.due("TABLE", ports % 4 == 0 ? ports + 256 : ports, x.tableOf(3, 95));
        }
        CHECK.due("none any more", true, x.table(0, 40, 0, true));
        CHECK.due("none, the HEAD neither", 0, x.tableOf(0, 40));
        CHECK.due("none already", true, x.table(0, 40, 0, false));
        CHECK.due("TABLES", 0, x.router(0, 9));
        CHECK.due("TABLES of 3", 1, x.router(3, 9));
    }

    private static void hold() {
        CHECK.sentence("An END HOLDS, or not: true; false if it is so already, or there is none such.");
        SpaceLinks x = new SpaceLinks();
        CHECK.changesNothing("hold", x, () -> {
            for (int e : NO_ENDS) {
                CHECK.due("hold(" + e + ", true)", false, x.hold(e, true));
                CHECK.due("hold(" + e + ", false)", false, x.hold(e, false));
            }
            CHECK.due("not already", false, x.hold(0, false));
        });
        for (int e = 0; e < 8; e++) {
            CHECK.due("hold(" + e + ", true)", true, x.hold(e, true));
            CHECK.due("already", false, x.hold(e, true));
            CHECK.due("HOLDS", 1, x.endOf(e, 4));
            CHECK.due("hold(" + e + ", false)", true, x.hold(e, false));
            CHECK.due("HOLDS", 0, x.endOf(e, 4));
        }
    }

    private static void tick() {
        CHECK.sentence("n TICKS (1 .. 100): TICK; NONE, and nothing is done, if it can't be.");
        SpaceLinks x = Check.running("cable e0 e1;");
        x.odds(5);
        Check.send(x, 0, 1, 2, 3);
        int[] wrong = {Integer.MIN_VALUE, -100, -1, 0, 101, 200, Integer.MAX_VALUE};
        CHECK.changesNothing("tick", x, () -> {
            for (int n : wrong) {
                CHECK.due("tick(" + n + ")", -1, x.tick(n));
            }
        });
        CHECK.due("tick(1)", 11, x.tick(1));
        CHECK.due("tick(2)", 13, x.tick(2));
        CHECK.due("tick(99)", 112, x.tick(99));
        CHECK.due("tick(100)", 212, x.tick(100));
        CHECK.due("TICK", 212, x.look(0));
    }

    private static void feed() {
        CHECK.sentence("Twenty bytes come behind THE TAPE, four of each number, the highest first: how many it has. NONE, and none come, if there would be more than 400.");
        SpaceLinks x = Check.running("cable e0 e1;");
        CHECK.due("twenty", 20, x.feed(0x01020304, 0xFFFEFDFC, 0x80007F00, 0, -1));
        x.send(0);
        x.tick(30);
        int[] due = {1, 2, 3, 4, 255, 254, 253, 252, 128, 0, 127, 0, 0, 0, 0, 0, 255, 255, 255, 255};
        for (int k = 0; k < 20; k++) {
            CHECK.due("byte " + k, due[k], x.byteOf(1, 0, k));
        }
        SpaceLinks y = new SpaceLinks();
        for (int k = 1; k <= 20; k++) {
            CHECK.due("feed", 20 * k, y.feed(k, k, k, k, k));
        }
        CHECK.due("420", -1, y.feed(0, 0, 0, 0, 0));
        CHECK.due("THE TAPE", 400, y.look(14));
        y.end(399);
        CHECK.due("419", -1, y.feed(0, 0, 0, 0, 0));
        y.end(381);
        CHECK.due("401", -1, y.feed(0, 0, 0, 0, 0));
        CHECK.due("THE TAPE", 381, y.look(14));
        y.end(380);
        CHECK.due("400", 400, y.feed(0, 0, 0, 0, 0));
        y.end(3);
        CHECK.due("behind what it has", 23, y.feed(0, 0, 0, 0, 0));
    }

    private static void end() {
        CHECK.sentence("THE TAPE has its first n bytes alone: true; false if it has not so many, or n is below 0.");
        SpaceLinks x = new SpaceLinks();
        CHECK.due("0 of none", true, x.end(0));
        CHECK.due("1 of none", false, x.end(1));
        x.feed(0x01020304, 0, 0, 0, 0);
        CHECK.changesNothing("end", x, () -> {
            CHECK.due("below 0", false, x.end(-1));
            CHECK.due("far below 0", false, x.end(Integer.MIN_VALUE));
            CHECK.due("one too many", false, x.end(21));
            CHECK.due("far too many", false, x.end(Integer.MAX_VALUE));
            CHECK.due("all of them", true, x.end(20));
        });
        CHECK.due("19", true, x.end(19));
        CHECK.due("20 any more", false, x.end(20));
        CHECK.due("1", true, x.end(1));
        CHECK.due("THE TAPE", 1, x.look(14));
        CHECK.due("0", true, x.end(0));
        CHECK.due("THE TAPE", 0, x.look(14));
        CHECK.due("an empty one is not sent", -1, x.send(0));
    }

    private static void send() {
        CHECK.sentence("THE TAPE (empty then) comes as a packet, with an END MARK, into the QUEUE of an END: how much is in that; NONE, and none comes, if there is none such, THE TAPE is empty, or there is no room.");
        SpaceLinks x = new SpaceLinks();
        CHECK.changesNothing("send", x, () -> {
            for (int e : NO_ENDS) {
                CHECK.due("an empty one to " + e, -1, x.send(e));
                Check.tape(x, 1, 2, 3);
                CHECK.due("send(" + e + ")", -1, x.send(e));
            }
            CHECK.due("an empty one", -1, x.send(0));
        });
        for (int e = 0; e < 8; e++) {
            Check.tape(x, 1, 2, 3);
            CHECK.due("send(" + e + ")", 4, x.send(e));
            CHECK.due("THE TAPE is empty then", 0, x.look(14));
            CHECK.due("one more", 6, Check.send(x, e, 9));
            CHECK.due("QUEUE", 6, x.endOf(e, 0));
        }
        x.plug(32, 33);
        x.tick(20);
        CHECK.due("with an END MARK each", 2, x.endOf(1, 2));
        CHECK.due("the bytes", 3, x.packet(1, 1, 0));
    }

    private static void sendWithoutRoom() {
        CHECK.sentence("NONE, and none comes, if there is none such, THE TAPE is empty, or there is no room.");
        for (int first = 1; first < 118; first += 13) {
            SpaceLinks x = new SpaceLinks();
            CHECK.due("first " + first, first + 1, Check.send(x, 0, new int[first]));
            int room = 120 - first - 1;
            Check.tape(x, new int[room]);
            CHECK.due("one too many", -1, x.send(0));
            CHECK.due("THE TAPE is empty then", 0, x.look(14));
            CHECK.due("QUEUE", first + 1, x.endOf(0, 0));
            CHECK.due("just enough", 120, Check.send(x, 0, new int[room - 1]));
            CHECK.due("full", -1, Check.send(x, 0, 1));
            CHECK.due("another END has room", 2, Check.send(x, 1, 1));
        }
        SpaceLinks y = new SpaceLinks();
        CHECK.due("a full TAPE", -1, Check.send(y, 0, new int[400]));
        CHECK.due("none comes", 0, y.endOf(0, 0));
    }

    private static void text() {
        CHECK.sentence("THE TAPE (empty then) is a TEXT: how many lines; NONE, and nothing is done, if there is a FAULT.");
        SpaceLinks x = new SpaceLinks();
        CHECK.due("an empty one", 0, x.text());
        CHECK.due("one line", 1, Check.text(x, "cable e0 e1;"));
        CHECK.due("THE TAPE is empty then", 0, x.look(14));
        int before = x.look(1);
        CHECK.due("a FAULT", -1, Check.text(x, "cable e2 e3;cable e0 e4;"));
        CHECK.due("THE TAPE is empty then", 0, x.look(14));
        CHECK.due("nothing is done", before, x.look(1));
        CHECK.due("none is sent either", -1, x.send(0));
    }

    private static void fault() {
        CHECK.sentence("Of the latest text() what 0 FAULT (0 without), 1 its place (NONE). NONE for another what.");
        SpaceLinks x = new SpaceLinks();
        CHECK.due("at first", 0, x.fault(0));
        CHECK.due("at first, its place", -1, x.fault(1));
        Check.text(x, "cable e0 e0;");
        CHECK.due("FAULT", 3, x.fault(0));
        CHECK.due("its place", 9, x.fault(1));
        CHECK.due("another what", -1, x.fault(2));
        CHECK.due("another what", -1, x.fault(-1));
        for (int what : Check.FAR) {
            CHECK.due("fault(" + what + ")", -1, x.fault(what));
        }
        Check.tape(x, 1, 2, 3);
        x.send(0);
        CHECK.due("of the latest text(), not of send()", 3, x.fault(0));
        Check.text(x, "cable e0 e1;");
        CHECK.due("without", 0, x.fault(0));
        CHECK.due("without a place", -1, x.fault(1));
        Check.text(x, "x");
        CHECK.due("at place 0", 0, x.fault(1));
    }

    private static void time() {
        CHECK.sentence("An END has the next TIME (one more, modulo 64), which is to be sent by it: that; NONE if there is none such, or its SOCKET is not in RUN.");
        SpaceLinks x = new SpaceLinks();
        x.plug(32, 33);
        for (int t = 0; t <= 7; t++) {
            CHECK.changesNothing("time(0) at " + t, x, () -> CHECK.due("not in RUN", -1, x.time(0)));
            x.tick(1);
        }
        CHECK.changesNothing("time", x, () -> {
            for (int e : NO_ENDS) {
                CHECK.due("time(" + e + ")", -1, x.time(e));
            }
            CHECK.due("OFF", -1, x.time(2));
        });
        for (int v = 1; v <= 130; v++) {
            CHECK.due("time " + v, v % 64, x.time(0));
            CHECK.due("to be sent", v % 64, x.socket(32, 15));
            CHECK.due("TIME", v % 64, x.endOf(0, 5));
        }
        CHECK.due("STEPS are of what comes", 0, x.endOf(0, 6));
        x.broken(32, true);
        CHECK.due("in RUN yet", 3, x.time(0));
        x.tick(1);
        CHECK.due("RESET", -1, x.time(0));
    }
}
