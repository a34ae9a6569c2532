/** Promise 17 and section 3: TIME that steps, is passed on once, or jumps. */
public final class TimeTest {
    private static final Check CHECK = new Check();

    public static void main(String[] args) {
        wrong();
        passedOn();
        passedOnByAll();
        roundAndRound();
        jumps();
        latestOnly();
        fallForgets();
        holdsNoTime();
        CHECK.finish();
    }

    private static void wrong() {
        SpaceLinks x = Check.running("cable e0 0.1;");
        CHECK.due("time(-1)", -1, x.time(-1));
        CHECK.due("time(8)", -1, x.time(8));
        CHECK.due("time(1) not in RUN", -1, x.time(1));
        CHECK.due("TIME of 1", 0, x.endOf(1, 5));
        SpaceLinks y = new SpaceLinks();
        y.plug(32, 33);
        y.tick(7);
        CHECK.due("time(0) in STATE 4", -1, y.time(0));
        y.tick(1);
        CHECK.due("time(0) in RUN", 1, y.time(0));
    }

    private static void passedOn() {
        SpaceLinks x = Check.running("cable e0 0.1;cable e1 0.2;cable 0.3 1.1;cable e2 1.2;cable 0.4 1.3;");
        CHECK.due("time(0)", 1, x.time(0));
        CHECK.due("to be sent", 1, x.socket(32, 15));
        Check.send(x, 0, 2, 9);
        x.tick(1);
        CHECK.due("TIME goes first", 261, x.socket(32, 9));
        CHECK.due("no more to be sent", -1, x.socket(32, 15));
        x.tick(1);
        CHECK.due("TIME of ROUTER 0", 1, x.router(0, 1));
        CHECK.due("STEPS of ROUTER 0", 1, x.router(0, 2));
        CHECK.due("sent by 1: not back", 258, x.socket(1, 9));
        CHECK.due("sent by 2", 261, x.socket(2, 9));
        CHECK.due("sent by 3", 261, x.socket(3, 9));
        CHECK.due("a byte behind it", 2, x.socket(32, 9));
        x.tick(1);
        CHECK.due("TIME of END 1", 1, x.endOf(1, 5));
        CHECK.due("STEPS of END 1", 1, x.endOf(1, 6));
        CHECK.due("TIME of ROUTER 1", 1, x.router(1, 1));
        x.tick(5);
        CHECK.due("TIME of END 2", 1, x.endOf(2, 5));
        CHECK.due("STEPS of ROUTER 1: once", 1, x.router(1, 2));
        CHECK.due("STEPS of ROUTER 0: once", 1, x.router(0, 2));
        CHECK.due("JUMPS of ROUTER 0", 0, x.router(0, 3));
        CHECK.due("STEPS of END 0", 0, x.endOf(0, 6));
        CHECK.due("TIME of END 0", 1, x.endOf(0, 5));
        // By 32, then 2, 3 and 4, then 10 and, back to ROUTER 0 which has it already, 11.
        CHECK.due("TIMES sent", 6, x.look(9));
    }

    private static void passedOnByAll() {
        SpaceLinks x = Check.running("cable e0 2.4;cable e1 2.1;cable e2 2.2;cable e3 2.3;cable e5 2.5;cable e6 2.6;cable e7 2.7;");
        x.time(0);
        x.tick(2);
        for (int port = 1; port <= 7; port++) {
            CHECK.due("sent by PORT " + port, port == 4 ? 258 : 261, x.socket(16 + port, 9));
        }
        x.tick(1);
        for (int e = 0; e < 8; e++) {
            CHECK.due("TIME of END " + e, e == 4 ? 0 : 1, x.endOf(e, 5));
        }
        CHECK.due("TIMES sent", 7, x.look(9));
    }

    private static void roundAndRound() {
        SpaceLinks x = Check.running("cable e0 e1;");
        for (int v = 1; v <= 65; v++) {
            CHECK.due("time " + v, v % 64, x.time(0));
            x.tick(1);
        }
        x.tick(1);
        CHECK.due("TIME", 1, x.endOf(1, 5));
        CHECK.due("STEPS", 65, x.endOf(1, 6));
        CHECK.due("JUMPS", 0, x.endOf(1, 7));
    }

    private static void jumps() {
        SpaceLinks x = Check.running("cable e0 0.1;cable e1 0.2;");
        x.time(0);
        x.time(0);
        CHECK.due("the latest alone", 2, x.socket(32, 15));
        x.tick(2);
        CHECK.due("TIME of the ROUTER", 2, x.router(0, 1));
        CHECK.due("STEPS", 0, x.router(0, 2));
        CHECK.due("JUMPS", 1, x.router(0, 3));
        x.tick(2);
        CHECK.due("not passed on", 0, x.endOf(1, 5));
        x.time(0);
        x.tick(3);
        CHECK.due("a step of the ROUTER", 1, x.router(0, 2));
        CHECK.due("a jump of the END", 1, x.endOf(1, 7));
        CHECK.due("TIME of the END", 3, x.endOf(1, 5));
        CHECK.due("STEPS of the END", 0, x.endOf(1, 6));
        CHECK.due("END 1 goes on from there", 4, x.time(1));
        x.tick(3);
        CHECK.due("back to END 0", 4, x.endOf(0, 5));
        CHECK.due("as a step", 1, x.endOf(0, 6));
    }

    /** The same TIME again is nothing. */
    private static void latestOnly() {
        SpaceLinks x = Check.running("cable e0 0.1;cable e1 0.2;");
        x.time(0);
        x.time(1);
        x.tick(3);
        CHECK.due("STEPS of the ROUTER", 1, x.router(0, 2));
        CHECK.due("JUMPS of the ROUTER", 0, x.router(0, 3));
        CHECK.due("STEPS of END 1", 0, x.endOf(1, 6));
        CHECK.due("JUMPS of END 1", 0, x.endOf(1, 7));
        CHECK.due("TIME of END 1", 1, x.endOf(1, 5));
        CHECK.due("JUMPS of END 0", 0, x.endOf(0, 7));
    }

    private static void fallForgets() {
        SpaceLinks x = Check.running("cable e0 e1;");
        x.time(0);
        x.turn(32, false);
        CHECK.due("none to be sent", -1, x.socket(32, 15));
        CHECK.due("TIME stays", 1, x.endOf(0, 5));
        x.turn(32, true);
        x.tick(20);
        CHECK.due("none was sent", 0, x.look(9));
    }

    /** What an END HOLDS back is its BUFFER alone. */
    private static void holdsNoTime() {
        SpaceLinks x = Check.running("cable e0 e1;");
        x.hold(0, true);
        x.hold(1, true);
        CHECK.due("one that HOLDS has the next TIME", 1, x.time(0));
        x.tick(2);
        CHECK.due("TIME of one that HOLDS", 1, x.endOf(1, 5));
        CHECK.due("STEPS", 1, x.endOf(1, 6));
        x.time(0);
        x.time(0);
        x.tick(2);
        CHECK.due("JUMPS", 1, x.endOf(1, 7));
    }
}
