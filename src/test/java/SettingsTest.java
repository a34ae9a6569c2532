/** Promises 6 to 10 and 22: WATCH, ODDS, STATE of DRAWS, TABLES, ENDS that HOLD. */
public final class SettingsTest {
    private static final Check CHECK = new Check();

    public static void main(String[] args) {
        watch();
        odds();
        draws();
        spoiledFirst();
        tables();
        hold();
        CHECK.finish();
    }

    private static void watch() {
        SpaceLinks x = new SpaceLinks();
        CHECK.due("watch(4)", false, x.watch(4));
        CHECK.due("watch(201)", false, x.watch(201));
        CHECK.due("WATCH stays", 20, x.look(4));
        CHECK.due("watch(5)", true, x.watch(5));
        CHECK.due("watch(5) again", true, x.watch(5));
        CHECK.due("WATCH", 5, x.look(4));
        CHECK.due("watch(200)", true, x.watch(200));
        CHECK.due("WATCH", 200, x.look(4));
        CHECK.due("watch(MIN)", false, x.watch(Integer.MIN_VALUE));
    }

    private static void odds() {
        SpaceLinks x = Check.running("cable e0 e1;");
        CHECK.due("odds(-1)", false, x.odds(-1));
        CHECK.due("odds(1001)", false, x.odds(1001));
        CHECK.due("ODDS", 0, x.look(18));
        x.tick(5);
        CHECK.due("no DRAW without ODDS", 0, x.look(19));
        CHECK.due("odds(1000)", true, x.odds(1000));
        CHECK.due("ODDS", 1000, x.look(18));
        x.tick(1);
        CHECK.due("both are SPOILED", 2, x.look(16));
        CHECK.due("32 is SPOILED", 1, x.socket(32, 16));
        CHECK.due("33 FELL", 1, x.socket(33, 10));
        CHECK.due("33 is RESET, one TICK old", 1, x.socket(33, 1));
        CHECK.due("log: FELL", 1, x.log(0, 1));
        CHECK.due("log: SPOILED ahead of it", 3, x.log(1, 1));
        CHECK.due("odds(0)", true, x.odds(0));
    }

    private static int next(int state) {
        return 1664525 * state + 1013904223;
    }

    private static int drawOf(int state) {
        return (next(state) >>> 8) % 1000;
    }

    private static void draws() {
        SpaceLinks x = Check.running("cable e0 e1;");
        CHECK.due("state(-5)", 0, x.state(-5));
        CHECK.due("state(77)", -5, x.state(77));
        CHECK.due("look(19)", 77, x.look(19));
        x.odds(1);
        x.tick(1);
        CHECK.due("two DRAWS in a TICK", next(next(77)), x.look(19));
        CHECK.due("no one is SPOILED", 0, x.look(16));

        SpaceLinks y = new SpaceLinks();
        y.odds(1000);
        y.plug(32, 33);
        y.tick(7);
        CHECK.due("no DRAW in STATE 3", 0, y.look(19));
        CHECK.due("STATE", 4, y.socket(32, 0));
        y.tick(1);
        CHECK.due("a DRAW each in STATE 4", next(next(0)), y.look(19));
        CHECK.due("SPOILED in STATE 4", 2, y.look(16));
    }

    /** ODDS 1: only a DRAW of 0 spoils, and the lower SOCKET draws first. */
    private static void spoiledFirst() {
        int seed = 0;
        while (drawOf(seed) != 1 || drawOf(next(seed)) != 0) {
            seed++;
        }
        SpaceLinks x = Check.running("cable e0 e1;");
        x.state(seed);
        x.odds(1);
        x.tick(1);
        CHECK.due("32 is not SPOILED by 1", 0, x.socket(32, 16));
        CHECK.due("33 is SPOILED by 0", 1, x.socket(33, 16));
        CHECK.due("32 stays in RUN", 5, x.socket(32, 0));
        x.odds(0);
        x.tick(1);
        CHECK.due("32 is SILENT then", 1, x.socket(32, 11));

        SpaceLinks y = Check.running("cable e0 e1;");
        y.state(seed);
        y.odds(2);
        y.tick(1);
        CHECK.due("ODDS 2: 1 spoils", 2, y.look(16));
    }

    private static void tables() {
        SpaceLinks x = new SpaceLinks();
        CHECK.due("table(-1, ..)", false, x.table(-1, 32, 2, true));
        CHECK.due("table(4, ..)", false, x.table(4, 32, 2, true));
        CHECK.due("table(0, 31, ..)", false, x.table(0, 31, 2, true));
        CHECK.due("table(0, 96, ..)", false, x.table(0, 96, 2, true));
        CHECK.due("PORT 0", false, x.table(0, 32, 3, true));
        CHECK.due("PORT 8", false, x.table(0, 32, 256, true));
        CHECK.due("PORTS below 0", false, x.table(0, 32, -2, true));
        CHECK.due("tableOf(0, 32)", 0, x.tableOf(0, 32));
        CHECK.due("table(0, 32, 254, false)", true, x.table(0, 32, 254, false));
        CHECK.due("table(3, 95, 2, true)", true, x.table(3, 95, 2, true));
        CHECK.due("tableOf(0, 32)", 254, x.tableOf(0, 32));
        CHECK.due("tableOf(3, 95)", 258, x.tableOf(3, 95));
        CHECK.due("tableOf(3, 32)", 0, x.tableOf(3, 32));
        CHECK.due("tableOf(0, 31)", -1, x.tableOf(0, 31));
        CHECK.due("tableOf(0, 96)", -1, x.tableOf(0, 96));
        CHECK.due("tableOf(4, 32)", -1, x.tableOf(4, 32));
        CHECK.due("tableOf(-1, 32)", -1, x.tableOf(-1, 32));
        CHECK.due("TABLES of 0", 1, x.router(0, 9));
        CHECK.due("another TABLE for it", true, x.table(0, 32, 4, true));
        CHECK.due("tableOf(0, 32)", 260, x.tableOf(0, 32));
        CHECK.due("TABLES of 0", 1, x.router(0, 9));
        CHECK.due("none any more", true, x.table(0, 32, 0, true));
        CHECK.due("tableOf(0, 32)", 0, x.tableOf(0, 32));
        CHECK.due("TABLES of 0", 0, x.router(0, 9));
        CHECK.due("TABLES of 3", 1, x.router(3, 9));
    }

    private static void hold() {
        SpaceLinks x = Check.running("cable e0 e1;");
        CHECK.due("hold(-1, true)", false, x.hold(-1, true));
        CHECK.due("hold(8, true)", false, x.hold(8, true));
        CHECK.due("hold(1, false)", false, x.hold(1, false));
        CHECK.due("hold(1, true)", true, x.hold(1, true));
        CHECK.due("hold(1, true) again", false, x.hold(1, true));
        CHECK.due("endOf(1, 4)", 1, x.endOf(1, 4));
        Check.send(x, 0, 5, 6);
        x.tick(6);
        CHECK.due("it takes nothing", 0, x.endOf(1, 1));
        CHECK.due("BUFFER", 3, x.socket(33, 7));
        CHECK.due("first of it", 5, x.buffer(33, 0));
        CHECK.due("last of it", 256, x.buffer(33, 2));
        CHECK.due("behind it", -1, x.buffer(33, 3));
        CHECK.due("hold(1, false)", true, x.hold(1, false));
        x.tick(3);
        CHECK.due("it takes one a TICK", 1, x.endOf(1, 1));
    }
}
