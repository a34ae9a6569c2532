/** ORDERS of part (c): what a ROUTER writes and what it refuses (promises 20 to 22). */
public final class OrdersTest {
    private static final Check CHECK = new Check();
    private static final String STAR = "cable 0.1 e0;cable 0.2 e1;cable 0.3 1.1;cable 1.2 e2;";

    public static void main(String[] args) {
        writesTables();
        turnsPorts();
        turnsItsOwnPort();
        setsTime();
        refuses();
        brokenOff();
        slowly();
        farAway();
        spillsAtItsPlace();
        CHECK.finish();
    }

    private static SpaceLinks ordered(int... order) {
        SpaceLinks x = Check.running(STAR);
        Check.send(x, 0, order);
        x.tick(order.length + 2);
        return x;
    }

    private static void writesTables() {
        SpaceLinks x = ordered(0, 1, 40, 4, 1);
        CHECK.due("TABLE", 256 + 4, x.tableOf(0, 40));
        CHECK.due("TAKEN", 1, x.router(0, 5));
        CHECK.due("WRITTEN", 1, x.router(0, 10));
        CHECK.due("REFUSED", 0, x.router(0, 11));
        CHECK.due("FREE", 0, x.input(1, 0));
        CHECK.due("log: WRITTEN", 9, x.log(0, 1));
        CHECK.due("log: the INPUT", 1, x.log(0, 2));
        CHECK.due("log: TICK", 17, x.log(0, 0));
        Check.send(x, 0, 0, 1, 40, 254, 0);
        x.tick(7);
        CHECK.due("another TABLE", 254, x.tableOf(0, 40));
        Check.send(x, 0, 0, 1, 40, 0, 1);
        x.tick(7);
        CHECK.due("none any more", 0, x.tableOf(0, 40));
        CHECK.due("WRITTEN", 3, x.router(0, 10));
        CHECK.due("A 32", 2, ordered(0, 1, 32, 2, 0).tableOf(0, 32));
        CHECK.due("A 95", 2, ordered(0, 1, 95, 2, 0).tableOf(0, 95));
    }

    private static void turnsPorts() {
        SpaceLinks x = ordered(0, 2, 2, 0);
        CHECK.due("off", 0, x.socket(2, 4));
        CHECK.due("OFF", 0, x.socket(2, 0));
        CHECK.due("FELL", 1, x.socket(2, 10));
        CHECK.due("WRITTEN", 1, x.router(0, 10));
        CHECK.due("sent", -1, x.socket(2, 9));
        Check.send(x, 0, 0, 2, 2, 0);
        x.tick(6);
        CHECK.due("off already: WRITTEN", 2, x.router(0, 10));
        CHECK.due("off already: OFF", 0, x.socket(2, 0));
        CHECK.due("off already: AGE", 6, x.socket(2, 1));
        Check.send(x, 0, 0, 2, 2, 1);
        x.tick(6);
        CHECK.due("ON", 1, x.socket(2, 4));
        CHECK.due("RESET, just now", 1, x.socket(2, 0));
        CHECK.due("AGE", 0, x.socket(2, 1));
        CHECK.due("WRITTEN", 3, x.router(0, 10));
        x.tick(10);
        Check.send(x, 0, 0, 2, 2, 1);
        x.tick(6);
        CHECK.due("ON already: WRITTEN", 4, x.router(0, 10));
        CHECK.due("ON already: RUN", 5, x.socket(2, 0));
        CHECK.due("ON already: FELL", 1, x.socket(2, 10));
        CHECK.due("PORT 7 without a CABLE", 0, ordered(0, 2, 7, 0).socket(7, 4));
        CHECK.due("PORT 1 of ROUTER 1 is another", 1, ordered(0, 2, 1, 0).socket(9, 4));
    }

    /** The PORT by which the ORDER came may be turned off by it; what came behind is broken off. */
    private static void turnsItsOwnPort() {
        SpaceLinks x = Check.running(STAR);
        x.watch(200);
        Check.send(x, 0, 5, 6);
        Check.send(x, 0, 0, 2, 1, 0);
        int[] packet = new int[50];
        packet[0] = 2;
        Check.send(x, 0, packet);
        x.tick(12);
        CHECK.due("all WAITS", 11, x.socket(1, 7));
        x.plug(5, 39);
        x.tick(12);
        CHECK.due("OFF", 0, x.socket(1, 0));
        CHECK.due("WRITTEN", 1, x.router(0, 10));
        CHECK.due("ROUTED", 1, x.input(1, 0));
        CHECK.due("BUFFER", 14, x.socket(1, 7));
        CHECK.due("an ERROR MARK behind", 257, x.buffer(1, 13));
        x.tick(16);
        CHECK.due("what came behind the ORDER goes on", 14, x.packet(1, 0, 0));
        CHECK.due("not WHOLE", 0, x.packet(1, 0, 1));
        CHECK.due("END 0: SPILLED", 1, x.endOf(0, 8));
        SpaceLinks y = ordered(0, 2, 1, 0, 0);
        CHECK.due("too long", 1, y.socket(1, 4));
        y = Check.running(STAR);
        Check.send(y, 0, 0, 2, 1, 0);
        y.tick(6);
        CHECK.due("its own", 0, y.socket(1, 4));
        CHECK.due("log: FELL is done first", 1, y.log(1, 1));
        CHECK.due("log: WRITTEN", 9, y.log(0, 1));
    }

    private static void setsTime() {
        SpaceLinks x = Check.running(STAR);
        x.time(0);
        x.tick(2);
        CHECK.due("TIME", 1, x.router(0, 1));
        Check.send(x, 0, 0, 3);
        x.tick(4);
        CHECK.due("TIME", 0, x.router(0, 1));
        CHECK.due("WRITTEN", 1, x.router(0, 10));
        CHECK.due("STEPS", 1, x.router(0, 2));
        CHECK.due("JUMPS", 0, x.router(0, 3));
        CHECK.due("TIME of the END", 1, x.endOf(0, 5));
    }

    private static void refuses() {
        int[][] wrong = {
            {0}, {0, 0}, {0, 1}, {0, 4}, {0, 9},
            {0, 1, 31, 4, 0}, {0, 1, 96, 4, 0}, {0, 1, 40, 5, 0}, {0, 1, 40, 4, 2}, {0, 1, 40, 4},
            {0, 1, 40, 4, 0, 0}, {0, 1, 40, 4, 0, 0, 0, 0}, {0, 1, 40, 255, 1},
            {0, 2, 0, 0}, {0, 2, 8, 0}, {0, 2, 2, 2}, {0, 2, 2}, {0, 2, 2, 0, 0},
            {0, 3, 0}, {0, 3, 3}, {0, 3, 0, 0, 0, 0, 0},
        };
        for (int[] order : wrong) {
            SpaceLinks x = ordered(order);
            String name = java.util.Arrays.toString(order);
            CHECK.due(name + ": TAKEN", 1, x.router(0, 5));
            CHECK.due(name + ": REFUSED", 1, x.router(0, 11));
            CHECK.due(name + ": WRITTEN", 0, x.router(0, 10));
            CHECK.due(name + ": TABLES", 0, x.router(0, 9));
            CHECK.due(name + ": ON", 1, x.socket(2, 4));
            CHECK.due(name + ": log", 10, x.log(0, 1));
            CHECK.due(name + ": log, the INPUT", 1, x.log(0, 2));
            CHECK.due(name + ": FREE", 0, x.input(1, 0));
        }
    }

    /** With an ERROR MARK nothing is done. */
    private static void brokenOff() {
        SpaceLinks x = Check.running(STAR);
        Check.send(x, 0, 0, 3, 0, 0, 0);
        x.tick(3);
        CHECK.due("SPILLING", 2, x.input(1, 0));
        CHECK.due("its bytes are gone", 0, x.socket(1, 7));
        x.turn(1, false);
        x.tick(1);
        CHECK.due("REFUSED", 1, x.router(0, 11));
        CHECK.due("FREE", 0, x.input(1, 0));
    }

    /** Bytes of an ORDER come one by one, also from two INPUTS at once. */
    private static void slowly() {
        SpaceLinks x = Check.running(STAR);
        Check.send(x, 0, 0, 1, 40, 4, 0);
        Check.send(x, 1, 0, 1, 41, 2, 1);
        x.tick(7);
        CHECK.due("by INPUT 1", 4, x.tableOf(0, 40));
        CHECK.due("by INPUT 2", 258, x.tableOf(0, 41));
        CHECK.due("log: INPUT 2", 2, x.log(0, 2));
        CHECK.due("log: INPUT 1", 1, x.log(1, 2));
        CHECK.due("TURN stays", 1, x.router(0, 0));
    }

    private static void farAway() {
        SpaceLinks x = Check.running(STAR);
        Check.send(x, 0, 3, 0, 1, 50, 4, 1);
        x.tick(12);
        CHECK.due("TABLE of ROUTER 1", 260, x.tableOf(1, 50));
        CHECK.due("none of ROUTER 0", 0, x.tableOf(0, 50));
        CHECK.due("log: the INPUT", 9, x.log(0, 2));
    }

    /** INPUT 2 turns off the PORT that INPUT 1 is ROUTED to: that spills at its place in the round, or in the next one. */
    private static void spillsAtItsPlace() {
        SpaceLinks x = stuckInput();
        Check.send(x, 1, 0, 2, 3, 0);
        x.tick(5);
        CHECK.due("TURN: INPUT 2 is ahead of 1", 2, x.router(0, 0));
        CHECK.due("STUCK", true, x.input(1, 2) > 5);
        x.tick(1);
        CHECK.due("WRITTEN", 1, x.router(0, 10));
        CHECK.due("SPILLING", 2, x.input(1, 0));
        CHECK.due("not STUCK", 0, x.input(1, 2));
        CHECK.due("BUFFER", 0, x.socket(1, 7));

        x = stuckInput();
        Check.send(x, 1, 1, 9);
        Check.send(x, 1, 0, 2, 3, 0);
        x.tick(8);
        CHECK.due("TURN: INPUT 1 is ahead of 2", 3, x.router(0, 0));
        CHECK.due("STUCK", true, x.input(1, 2) > 5);
        x.tick(1);
        CHECK.due("WRITTEN", 1, x.router(0, 10));
        CHECK.due("SPILLING", 2, x.input(1, 0));
        CHECK.due("not STUCK", 0, x.input(1, 2));
        CHECK.due("BUFFER", 23, x.socket(1, 7));
        x.tick(1);
        CHECK.due("BUFFER", 0, x.socket(1, 7));
    }

    /** END 2 HOLDS: INPUT 1, ROUTED to PORT 3, gets nothing on. */
    private static SpaceLinks stuckInput() {
        SpaceLinks x = Check.running(STAR);
        x.hold(2, true);
        x.watch(200);
        int[] packet = new int[100];
        packet[0] = 3;
        packet[1] = 2;
        Check.send(x, 0, packet);
        x.tick(90);
        CHECK.due("ROUTED", 3, x.input(1, 1));
        CHECK.due("BUFFER", 23, x.socket(1, 7));
        return x;
    }
}
