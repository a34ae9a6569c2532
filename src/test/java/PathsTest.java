/** Promises 26 to 28: WAY, SPREAD and LOOPS. */
public final class PathsTest {
    private static final Check CHECK = new Check();

    public static void main(String[] args) {
        wrong();
        direct();
        shortest();
        leastPorts();
        longest();
        spreads();
        headGoes();
        loops();
        CHECK.finish();
    }

    private static SpaceLinks laid(String text) {
        SpaceLinks x = new SpaceLinks();
        CHECK.due("text", 1, Check.text(x, text) > 0 ? 1 : 0);
        return x;
    }

    private static void way(SpaceLinks x, int from, int to, int... ports) {
        CHECK.due("way(" + from + ", " + to + ", NONE)", ports.length, x.way(from, to, -1));
        for (int i = 0; i < ports.length; i++) {
            CHECK.due("way(" + from + ", " + to + ", " + i + ")", ports[i], x.way(from, to, i));
        }
        CHECK.due("way(" + from + ", " + to + ", beyond)", -1, x.way(from, to, ports.length));
        CHECK.due("way(" + from + ", " + to + ", -2)", -1, x.way(from, to, -2));
        CHECK.due("way(" + from + ", " + to + ", MAX)", -1, x.way(from, to, Integer.MAX_VALUE));
    }

    private static void wrong() {
        SpaceLinks x = laid("cable e0 0.1;cable e1 0.2;cable e2 1.1;cable e3 e4;");
        CHECK.due("way(0, 0, -1)", -1, x.way(0, 0, -1));
        CHECK.due("way(-1, 0, -1)", -1, x.way(-1, 0, -1));
        CHECK.due("way(0, 8, -1)", -1, x.way(0, 8, -1));
        CHECK.due("way(0, -1, -1)", -1, x.way(0, -1, -1));
        CHECK.due("way(8, 0, -1)", -1, x.way(8, 0, -1));
        CHECK.due("no WAY", -1, x.way(0, 2, -1));
        CHECK.due("no WAY", -1, x.way(0, 2, 0));
        CHECK.due("no CABLE", -1, x.way(0, 5, -1));
        CHECK.due("no CABLE", -1, x.way(5, 0, -1));
        CHECK.due("another END", -1, x.way(3, 0, -1));
        CHECK.due("another END", -1, x.way(0, 3, -1));
        SpaceLinks y = laid("cable e0 e1;cable e2 0.1;");
        CHECK.due("END 0 instead", -1, y.way(1, 2, -1));
        CHECK.due("END 0 has it", -1, y.way(2, 1, -1));
        CHECK.due("spread(-1, 40)", -1, x.spread(-1, 40));
        CHECK.due("spread(4, 40)", -1, x.spread(4, 40));
        CHECK.due("spread(0, 31)", -1, x.spread(0, 31));
        CHECK.due("spread(0, 96)", -1, x.spread(0, 96));
        CHECK.due("spread without a TABLE", 0, x.spread(0, 40));
        CHECK.due("loops(-1, 40)", -1, x.loops(-1, 40));
        CHECK.due("loops(4, 40)", -1, x.loops(4, 40));
        CHECK.due("loops(0, 31)", -1, x.loops(0, 31));
        CHECK.due("loops(0, 96)", -1, x.loops(0, 96));
        CHECK.due("loops without a TABLE", 0, x.loops(0, 40));
    }

    private static void direct() {
        SpaceLinks x = laid("cable e0 e1;cable e2 3.7;cable 3.1 e3;");
        way(x, 0, 1);
        way(x, 1, 0);
        way(x, 2, 3, 1);
        way(x, 3, 2, 7);
    }

    private static void shortest() {
        SpaceLinks x = laid("cable e0 0.1;cable 0.2 1.1;cable 1.2 2.1;cable 0.7 2.7;cable 2.3 e1;cable 0.3 0.4;");
        way(x, 0, 1, 7, 3);
        way(x, 1, 0, 7, 1);
        x.broken(7, true);
        x.turn(7, false);
        way(x, 0, 1, 7, 3);
        x.unplug(7);
        way(x, 0, 1, 2, 2, 3);
        way(x, 1, 0, 1, 1, 1);
    }

    private static void leastPorts() {
        // Two ROUTERS lead from 0 to 3 in as many CABLES; and of two CABLES beside one another the lesser.
        SpaceLinks x = laid("cable e0 0.1;cable 0.5 1.1;cable 0.4 2.1;cable 1.2 3.1;cable 2.7 3.2;cable 2.6 3.3;"
                + "cable 3.7 e1;");
        way(x, 0, 1, 4, 6, 7);
        way(x, 1, 0, 1, 1, 1);
        x.unplug(4);
        way(x, 0, 1, 5, 2, 7);
    }

    private static void longest() {
        SpaceLinks x = laid("cable e0 3.1;cable 3.2 1.1;cable 1.2 0.1;cable 0.2 2.1;cable 2.2 e1;");
        way(x, 0, 1, 2, 2, 2, 2);
        way(x, 1, 0, 1, 1, 1, 1);
    }

    private static void spreads() {
        SpaceLinks x = laid("cable e0 0.1;cable e1 0.2;cable 0.3 1.1;cable e2 1.2;cable 1.3 2.1;cable e3 2.2;cable e4 3.1;"
                + "table 0 40 stay 2 3 7;table 1 40 stay 2 3;table 2 40 stay 2;table 3 40 stay 1;");
        CHECK.due("from 0", 2 + 4 + 8, x.spread(0, 40));
        CHECK.due("from 1", 4 + 8, x.spread(1, 40));
        CHECK.due("from 2", 8, x.spread(2, 40));
        CHECK.due("from 3", 16, x.spread(3, 40));
        CHECK.due("another address", 0, x.spread(0, 41));
        CHECK.due("no loop", 0, x.loops(0, 40));
        x.broken(3, true);
        x.turn(9, false);
        CHECK.due("by CABLES as they are", 2 + 4 + 8, x.spread(0, 40));
        x.unplug(3);
        CHECK.due("without the CABLE", 2, x.spread(0, 40));
    }

    private static void headGoes() {
        SpaceLinks x = laid("cable e0 0.1;cable e1 0.2;cable 0.3 1.1;cable e2 1.2;"
                + "table 0 40 go 2 3;table 1 40 stay 1 2;");
        CHECK.due("to an END it comes, by a ROUTER to none", 2, x.spread(0, 40));
        CHECK.due("no loop", 0, x.loops(0, 40));
        CHECK.due("from 1 to 0 and there", 2 + 4, x.spread(1, 40));
        CHECK.due("no loop from 1", 0, x.loops(1, 40));
    }

    private static void loops() {
        SpaceLinks x = laid("cable 0.1 1.1;cable 1.2 2.1;cable 2.2 1.3;cable 3.1 3.2;cable e0 2.3;"
                + "table 0 40 stay 1;table 1 40 stay 2;table 2 40 stay 2 3;table 3 40 stay 1;table 3 41 go 1;");
        CHECK.due("1 comes to itself, from 0", 1, x.loops(0, 40));
        CHECK.due("from 1", 1, x.loops(1, 40));
        CHECK.due("SPREAD all the same", 1, x.spread(0, 40));
        CHECK.due("by its own CABLE", 1, x.loops(3, 40));
        CHECK.due("its HEAD goes", 0, x.loops(3, 41));
        SpaceLinks self = laid("cable 0.1 0.2;cable e0 1.1;table 0 50 stay 2;table 1 50 stay 1;");
        CHECK.due("ROUTER 0 by itself", 1, self.loops(0, 50));
        CHECK.due("ROUTER 1 does not", 0, self.loops(1, 50));
        SpaceLinks ring = laid("cable 0.1 3.2;cable 3.1 2.2;cable 2.1 1.2;cable 1.1 0.2;cable e0 1.7;"
                + "table 0 50 stay 1;table 3 50 stay 1;table 2 50 stay 1;table 1 50 stay 1 7;");
        CHECK.due("a ring of four", 1, ring.loops(0, 50));
        CHECK.due("the END is at its last one", 1, ring.spread(0, 50));
        ring.table(1, 50, 128, false);
        CHECK.due("no ring", 0, ring.loops(0, 50));
        CHECK.due("the END is there", 1, ring.spread(0, 50));
        x.table(2, 40, 8, false);
        CHECK.due("no more", 0, x.loops(0, 40));
        CHECK.due("there and back", 0, x.loops(1, 40));
        x.table(1, 40, 2, false);
        CHECK.due("back by the same CABLE", 1, x.loops(0, 40));
    }
}
