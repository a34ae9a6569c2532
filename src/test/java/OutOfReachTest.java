import java.lang.reflect.Array;
import java.lang.reflect.Field;

/**
 * Edges that the document names and no 512 calls lead to: TICK 99999, BOUGHT above 24, a byte with SOLD 0, a CABLE
 * that is not SOUND. The numbers are set inside the object, by the names that they have in the source.
 */
public final class OutOfReachTest {
    private static final Check CHECK = new Check();

    public static void main(String[] args) throws ReflectiveOperationException {
        lastTick();
        boughtTooMuch();
        boughtTooMuchAsItConnects();
        soldNothing();
        notSound();
        CHECK.finish();
    }

    private static Object inside(Object whole, String name) throws ReflectiveOperationException {
        Field field = whole.getClass().getDeclaredField(name);
        field.setAccessible(true);
        return field.get(whole);
    }

    private static void set(Object whole, String name, int value) throws ReflectiveOperationException {
        Field field = whole.getClass().getDeclaredField(name);
        field.setAccessible(true);
        field.setInt(whole, value);
    }

    private static Object side(SpaceLinks x, int socket) throws ReflectiveOperationException {
        return Array.get(inside(inside(x, "now"), "sides"), socket);
    }

    private static void lastTick() throws ReflectiveOperationException {
        CHECK.sentence("it is one more (0 at first; 99999 at most)");
        SpaceLinks x = Check.running("cable e0 e1;");
        set(inside(x, "now"), "tick", 99900);
        CHECK.changesNothing("100000", x, () -> CHECK.due("100000", -1, x.tick(100)));
        CHECK.due("99999", 99999, x.tick(99));
        CHECK.changesNothing("one more", x, () -> {
            CHECK.due("100000", -1, x.tick(1));
            CHECK.due("and more", -1, x.tick(100));
        });
        CHECK.due("TICK", 99999, x.look(0));
    }

    private static void boughtTooMuch() throws ReflectiveOperationException {
        CHECK.sentence("BOUGHT is 8 more (above 24: it FALLS, RESET)");
        for (int bought = 16; bought <= 17; bought++) {
            SpaceLinks x = Check.running("cable e0 e1;");
            set(side(x, 32), "bought", bought);
            set(side(x, 33), "sold", 16);
            x.tick(1);
            CHECK.due("CREDIT is sent", 259, x.socket(33, 9));
            x.tick(1);
            CHECK.due("STATE with " + bought + " and 8", bought == 16 ? 5 : 1, x.socket(32, 0));
            CHECK.due("BOUGHT", bought == 16 ? 24 : 0, x.socket(32, 5));
            CHECK.due("FELL", bought == 16 ? 0 : 1, x.socket(32, 10));
            CHECK.due("not SILENT", 0, x.socket(32, 11));
        }
    }

    private static void boughtTooMuchAsItConnects() throws ReflectiveOperationException {
        CHECK.sentence("4, 5: CREDIT: BOUGHT is 8 more (above 24: it FALLS, RESET)");
        for (int bought = 16; bought <= 17; bought++) {
            SpaceLinks x = new SpaceLinks();
            x.plug(32, 33);
            x.tick(7);
            set(side(x, 32), "bought", bought);
            x.tick(1);
            CHECK.due("STATE with " + bought + " and 8", bought == 16 ? 5 : 1, x.socket(32, 0));
            CHECK.due("FELL", bought == 16 ? 0 : 1, x.socket(32, 10));
        }
    }

    private static void soldNothing() throws ReflectiveOperationException {
        CHECK.sentence("SOLD is one less (was it 0: it FALLS, RESET), it comes into the BUFFER.");
        for (int sold = 0; sold <= 1; sold++) {
            SpaceLinks x = Check.running("cable e0 e1;");
            x.hold(1, true);
            Check.send(x, 0, 5, 6);
            x.tick(1);
            set(side(x, 33), "sold", sold);
            x.tick(1);
            CHECK.due("STATE with SOLD " + sold, sold == 0 ? 1 : 5, x.socket(33, 0));
            CHECK.due("BUFFER with SOLD " + sold, sold, x.socket(33, 7));
            CHECK.due("FELL", 1 - sold, x.socket(33, 10));
        }
        SpaceLinks y = Check.running("cable e0 e1;");
        y.hold(1, true);
        Check.send(y, 0, 5, 6);
        y.tick(2);
        set(side(y, 33), "sold", 0);
        y.tick(1);
        CHECK.due("the byte that came is broken off", 2, y.socket(33, 7));
        CHECK.due("an ERROR MARK", 257, y.buffer(33, 1));
    }

    private static void notSound() throws ReflectiveOperationException {
        CHECK.sentence("Whether the CABLE of a SOCKET is SOUND (1, 0).");
        SpaceLinks x = Check.running("cable e0 e1;");
        String[] names = {"bought", "sold"};
        for (String name : names) {
            for (int value = 23; value <= 25; value++) {
                for (int s = 32; s <= 33; s++) {
                    set(side(x, s), name, value);
                    CHECK.due(name + " of " + s + " is " + value, value == 24 ? 1 : 0, x.sound(32));
                    CHECK.due("the other side", value == 24 ? 1 : 0, x.sound(33));
                    set(side(x, s), name, 24);
                }
            }
        }
        // What is on the CABLE counts, too: CREDIT, a byte, a MARK; but no NULL, no TIME.
        Check.send(x, 0, 5);
        x.tick(1);
        CHECK.due("a byte is on it", 1, x.sound(32));
        set(side(x, 32), "bought", 24);
        CHECK.due("a byte, and BOUGHT as if it were not", 0, x.sound(32));
        set(side(x, 32), "bought", 23);
        x.tick(1);
        CHECK.due("a MARK is on it", 1, x.sound(32));
        set(side(x, 32), "bought", 23);
        CHECK.due("a MARK, and BOUGHT as if it were not", 0, x.sound(32));
        set(side(x, 32), "bought", 22);
        x.time(0);
        x.tick(2);
        CHECK.due("TIME costs nothing", 1, x.sound(32));
    }
}
