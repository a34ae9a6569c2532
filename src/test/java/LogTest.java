/** Promise 29: THE LOG. */
public final class LogTest {
    private static final Check CHECK = new Check();

    public static void main(String[] args) {
        answers();
        byHand();
        silentAheadOfFell();
        packets();
        keepsSixty();
        CHECK.finish();
    }

    private static void line(SpaceLinks x, int i, int tick, int what, int socket) {
        CHECK.due("log(" + i + ", 0)", tick, x.log(i, 0));
        CHECK.due("log(" + i + ", 1)", what, x.log(i, 1));
        CHECK.due("log(" + i + ", 2)", socket, x.log(i, 2));
    }

    private static void answers() {
        SpaceLinks x = new SpaceLinks();
        CHECK.due("log(0, 0) of none", -1, x.log(0, 0));
        x.plug(32, 9);
        x.tick(10);
        CHECK.due("lines", 2, x.look(17));
        line(x, 0, 8, 0, 32);
        line(x, 1, 8, 0, 9);
        CHECK.due("log(2, 0)", -1, x.log(2, 0));
        CHECK.due("log(-1, 0)", -1, x.log(-1, 0));
        CHECK.due("log(0, -1)", -1, x.log(0, -1));
        CHECK.due("log(0, 3)", -1, x.log(0, 3));
    }

    private static void byHand() {
        SpaceLinks x = Check.running("cable e0 e1;");
        x.turn(33, false);
        line(x, 0, 10, 1, 33);
        CHECK.due("lines", 3, x.look(17));
        x.turn(33, true);
        CHECK.due("RESET is no line", 3, x.look(17));
        // The document tells no order for these two: the one that was named FALLS first (NOTES.md).
        for (int named = 32; named <= 33; named++) {
            SpaceLinks y = Check.running("cable e0 e1;");
            y.unplug(named);
            line(y, 1, 10, 1, named);
            line(y, 0, 10, 1, 65 - named);
        }
    }

    private static void silentAheadOfFell() {
        SpaceLinks x = Check.running("cable e0 e1;");
        x.broken(32, true);
        x.tick(1);
        CHECK.due("lines", 6, x.look(17));
        line(x, 3, 11, 2, 32);
        line(x, 2, 11, 1, 32);
        line(x, 1, 11, 2, 33);
        line(x, 0, 11, 1, 33);
    }

    private static void packets() {
        SpaceLinks x = Check.running("cable e0 3.1;cable e7 3.2;");
        Check.send(x, 0, 2, 5);
        Check.send(x, 0, 99, 5);
        Check.send(x, 0, 0, 3);
        Check.send(x, 0, 0, 4);
        x.tick(5);
        line(x, 2, 12, 4, 25);
        line(x, 1, 15, 6, 25);
        line(x, 0, 15, 7, 39);
        x.tick(20);
        line(x, 1, 20, 9, 25);
        line(x, 0, 23, 10, 25);
        Check.send(x, 7, 1, 5, 5, 5, 5);
        x.tick(4);
        x.broken(39, true);
        x.tick(5);
        line(x, 0, 41, 8, 32);
    }

    private static void keepsSixty() {
        SpaceLinks x = new SpaceLinks();
        x.plug(32, 33);
        x.turn(33, false);
        // Alone it FALLS every twelve TICKS: a line each.
        for (int k = 0; k < 8; k++) {
            x.tick(96);
        }
        CHECK.due("lines", 64, x.look(17));
        line(x, 0, 768, 1, 32);
        line(x, 59, 60, 1, 32);
        CHECK.due("log(60, 0)", -1, x.log(60, 0));
        CHECK.due("log(63, 0)", -1, x.log(63, 0));
        CHECK.due("FELL", 64, x.look(12));
    }
}
