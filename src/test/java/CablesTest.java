/** Promises 1 to 5: a new object; CABLES that come, go and break; SOCKETS that are turned by hand. */
public final class CablesTest {
    private static final Check CHECK = new Check();

    public static void main(String[] args) {
        newObject();
        plug();
        unplug();
        broken();
        turn();
        CHECK.finish();
    }

    private static void newObject() {
        SpaceLinks x = new SpaceLinks();
        CHECK.due("NONE", -1, SpaceLinks.NONE);
        for (int what = 0; what < 20; what++) {
            CHECK.due("new: look(" + what + ")", what == 4 ? 20 : 0, x.look(what));
        }
        for (int s = 0; s < 40; s++) {
            boolean isThere = s >= 32 || s % 8 != 0;
            CHECK.due("new: socket(" + s + ", 0)", isThere ? 0 : -100, x.socket(s, 0));
            CHECK.due("new: socket(" + s + ", 2)", isThere ? -1 : -100, x.socket(s, 2));
            CHECK.due("new: socket(" + s + ", 4)", isThere ? 1 : -100, x.socket(s, 4));
        }
    }

    private static void plug() {
        SpaceLinks x = new SpaceLinks();
        int[] none = {-1, 0, 8, 16, 24, 40, Integer.MAX_VALUE, Integer.MIN_VALUE};
        for (int s : none) {
            CHECK.due("plug(" + s + ", 33)", false, x.plug(s, 33));
            CHECK.due("plug(33, " + s + ")", false, x.plug(33, s));
        }
        CHECK.due("plug(33, 33)", false, x.plug(33, 33));
        CHECK.due("look(1) without", 0, x.look(1));
        CHECK.due("plug(39, 31)", true, x.plug(39, 31));
        CHECK.due("plug(1, 7), of one ROUTER", true, x.plug(1, 7));
        CHECK.due("plug(39, 2)", false, x.plug(39, 2));
        CHECK.due("plug(2, 31)", false, x.plug(2, 31));
        CHECK.due("plug(2, 1)", false, x.plug(2, 1));
        CHECK.due("look(1) with two", 2, x.look(1));
        CHECK.due("socket(39, 2)", 31, x.socket(39, 2));
        CHECK.due("socket(31, 2)", 39, x.socket(31, 2));
        CHECK.due("socket(7, 0)", 1, x.socket(7, 0));
        CHECK.due("socket(2, 0)", 0, x.socket(2, 0));
        CHECK.due("socket(2, 2)", -1, x.socket(2, 2));
    }

    private static void unplug() {
        SpaceLinks x = Check.running("cable e0 e1; cable 0.1 e2;");
        CHECK.due("unplug(34 + 1)", -1, x.unplug(35));
        CHECK.due("unplug(0)", -1, x.unplug(0));
        CHECK.due("unplug(-1)", -1, x.unplug(-1));
        CHECK.due("unplug(40)", -1, x.unplug(40));
        CHECK.due("unplug(33)", 32, x.unplug(33));
        CHECK.due("unplug(33) again", -1, x.unplug(33));
        CHECK.due("unplug(32)", -1, x.unplug(32));
        CHECK.due("look(1)", 1, x.look(1));
        for (int s = 32; s < 34; s++) {
            CHECK.due("unplugged: STATE of " + s, 0, x.socket(s, 0));
            CHECK.due("unplugged: AGE of " + s, 0, x.socket(s, 1));
            CHECK.due("unplugged: sent by " + s, -1, x.socket(s, 9));
            CHECK.due("unplugged: fell " + s, 1, x.socket(s, 10));
            CHECK.due("unplugged: WHOLE of " + s, 0, x.socket(s, 3));
        }
        CHECK.due("STATE of 34", 5, x.socket(34, 0));
        CHECK.due("plug(33, 35)", true, x.plug(33, 35));
        x.tick(10);
        CHECK.due("STATE of 33 with another", 5, x.socket(33, 0));
        CHECK.due("STATE of 32 alone", 0, x.socket(32, 0));
        CHECK.due("AGE of 32 alone", 10, x.socket(32, 1));
    }

    private static void broken() {
        SpaceLinks x = Check.running("cable e0 e1; cable 0.1 e2;");
        CHECK.due("broken(35, true) without", false, x.broken(35, true));
        CHECK.due("broken(35, false) without", false, x.broken(35, false));
        CHECK.due("broken(40, true)", false, x.broken(40, true));
        CHECK.due("broken(8, true)", false, x.broken(8, true));
        CHECK.due("broken(-1, true)", false, x.broken(-1, true));
        CHECK.due("broken(32, false) as it is WHOLE", false, x.broken(32, false));
        CHECK.due("broken(32, true)", true, x.broken(32, true));
        CHECK.due("broken(33, true) again", false, x.broken(33, true));
        CHECK.due("WHOLE of 32", 0, x.socket(32, 3));
        CHECK.due("WHOLE of 33", 0, x.socket(33, 3));
        CHECK.due("look(2)", 1, x.look(2));
        CHECK.due("STATE before the TICK", 5, x.socket(32, 0));
        CHECK.due("broken(33, false)", true, x.broken(33, false));
        CHECK.due("WHOLE again", 1, x.socket(32, 3));
        CHECK.due("look(2) again", 0, x.look(2));
        x.tick(1);
        CHECK.due("nothing was missed", 5, x.socket(32, 0));
        x.broken(1, true);
        x.tick(1);
        CHECK.due("both are SILENT", 2, x.look(13));
        CHECK.due("STATE of 34", 1, x.socket(34, 0));
        CHECK.due("STATE of 1", 1, x.socket(1, 0));
        x.unplug(1);
        CHECK.due("look(2) without the CABLE", 0, x.look(2));
        x.plug(1, 34);
        CHECK.due("a new CABLE is WHOLE", 1, x.socket(1, 3));
    }

    private static void turn() {
        SpaceLinks x = Check.running("cable e0 e1;");
        CHECK.due("turn(40, false)", false, x.turn(40, false));
        CHECK.due("turn(16, false)", false, x.turn(16, false));
        CHECK.due("turn(-1, false)", false, x.turn(-1, false));
        CHECK.due("turn(32, true) as it is ON", false, x.turn(32, true));
        CHECK.due("turn(32, false)", true, x.turn(32, false));
        CHECK.due("turn(32, false) again", false, x.turn(32, false));
        CHECK.due("STATE off", 0, x.socket(32, 0));
        CHECK.due("ON", 0, x.socket(32, 4));
        CHECK.due("what it sent", -1, x.socket(32, 9));
        CHECK.due("BOUGHT", 0, x.socket(32, 5));
        CHECK.due("SOLD", 0, x.socket(32, 6));
        CHECK.due("STATE of the other", 5, x.socket(33, 0));
        CHECK.due("turn(32, true)", true, x.turn(32, true));
        CHECK.due("STATE on", 1, x.socket(32, 0));
        CHECK.due("AGE on", 0, x.socket(32, 1));
        CHECK.due("its CABLE stays", 33, x.socket(32, 2));
        x.tick(1);
        CHECK.due("the other is SILENT", 1, x.socket(33, 11));

        x = new SpaceLinks();
        CHECK.due("turn(5, false) without a CABLE", true, x.turn(5, false));
        CHECK.due("plug(5, 6)", true, x.plug(5, 6));
        CHECK.due("STATE off by hand with a CABLE", 0, x.socket(5, 0));
        CHECK.due("STATE of the other", 1, x.socket(6, 0));
        x.turn(6, false);
        CHECK.due("RESET that goes off has not FALLEN", 0, x.socket(6, 10));
        x.turn(5, true);
        CHECK.due("STATE turned ON", 1, x.socket(5, 0));
        x.unplug(5);
        x.turn(5, false);
        x.turn(5, true);
        CHECK.due("ON without a CABLE", 0, x.socket(5, 0));
    }
}
