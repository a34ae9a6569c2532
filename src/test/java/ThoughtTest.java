/** Promises 30 and 31: LASTS and SOUND. */
public final class ThoughtTest {
    private static final Check CHECK = new Check();

    public static void main(String[] args) {
        wrong();
        lasts();
        lastsLong();
        nothingStays();
        sound();
        CHECK.finish();
    }

    private static void wrong() {
        SpaceLinks x = Check.running("cable e0 e1;");
        Check.send(x, 0, 1);
        CHECK.due("lasts(-1, 1)", -1, x.lasts(-1, 1));
        CHECK.due("lasts(8, 1)", -1, x.lasts(8, 1));
        CHECK.due("lasts(1, 0)", -1, x.lasts(1, 0));
        CHECK.due("lasts(1, 21)", -1, x.lasts(1, 21));
        CHECK.due("not by then", -1, x.lasts(1, 2));
        CHECK.due("not at all", -1, x.lasts(5, 1));
        CHECK.due("lasts(1, 1)", 3, x.lasts(1, 1));
        for (int k = 0; k < 20; k++) {
            Check.send(x, 0, 1);
        }
        CHECK.due("lasts(1, 20)", 41, x.lasts(1, 20));
        CHECK.due("lasts(1, 21) would come, too", -1, x.lasts(1, 21));
    }

    private static void lasts() {
        SpaceLinks x = Check.running("cable e0 0.1;cable e1 0.2;");
        for (int k = 0; k < 20; k++) {
            Check.send(x, 0, 2, k);
        }
        int one = x.lasts(1, 1);
        int twenty = x.lasts(1, 20);
        CHECK.due("one", 5, one);
        x.tick(one - 1);
        CHECK.due("not yet", 0, x.endOf(1, 1));
        x.tick(1);
        CHECK.due("now", 1, x.endOf(1, 1));
        CHECK.due("nineteen more", twenty - one, x.lasts(1, 19));
        x.tick(twenty - one);
        CHECK.due("all", 20, x.endOf(1, 1));
        CHECK.due("the latest came just now", x.look(0), x.packet(1, 0, 2));
    }

    /** 400 TICKS are thought of, and no more. */
    private static void lastsLong() {
        SpaceLinks x = Check.running("cable e0 0.1;cable e1 0.2;");
        x.watch(200);
        Check.send(x, 0, 5, 1);
        Check.send(x, 0, 5, 1);
        Check.send(x, 0, 2, 9);
        // Two are CUT, one behind the other: 201 TICKS each.
        CHECK.due("in 406", -1, x.lasts(1, 1));
        x.tick(5);
        CHECK.due("in 401", -1, x.lasts(1, 1));
        x.tick(1);
        CHECK.due("in 400", 400, x.lasts(1, 1));
    }

    private static void nothingStays() {
        SpaceLinks x = Check.running("cable e0 e1;");
        x.odds(3);
        x.state(5);
        Check.send(x, 0, 1, 2, 3);
        Check.text(x, "x");
        x.feed(0, 0, 0, 0, 0);
        x.lasts(1, 20);
        CHECK.due("TICK", 10, x.look(0));
        CHECK.due("STATE of DRAWS", 5, x.look(19));
        CHECK.due("RECEIVED", 0, x.look(5));
        CHECK.due("QUEUE", 4, x.endOf(0, 0));
        CHECK.due("lines of THE LOG", 2, x.look(17));
        CHECK.due("THE TAPE", 20, x.look(14));
        CHECK.due("FAULT", 1, x.fault(0));
        CHECK.due("bytes sent", 0, x.look(10));
        x.image(true);
        x.tick(2);
        x.lasts(1, 1);
        x.image(false);
        CHECK.due("THE IMAGE is another one", 10, x.look(0));
    }

    private static void sound() {
        SpaceLinks x = new SpaceLinks();
        CHECK.due("sound(32) without", -1, x.sound(32));
        CHECK.due("sound(40)", -1, x.sound(40));
        CHECK.due("sound(0)", -1, x.sound(0));
        CHECK.due("sound(-1)", -1, x.sound(-1));
        x.plug(32, 1);
        for (int t = 1; t < 8; t++) {
            x.tick(1);
            CHECK.due("not in RUN at " + t, -1, x.sound(32));
        }
        Check.send(x, 0, new int[60]);
        x.plug(33, 2);
        for (int t = 8; t < 80; t++) {
            x.tick(1);
            CHECK.due("SOUND at " + t, 1, x.sound(32));
            CHECK.due("SOUND, the other side, at " + t, 1, x.sound(1));
        }
        x.turn(1, false);
        CHECK.due("one is not in RUN", -1, x.sound(32));
        CHECK.due("one is not in RUN", -1, x.sound(1));
    }
}
