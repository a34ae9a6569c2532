import java.util.ArrayList;
import java.util.List;
import java.util.Random;

/** Promise 32: THE IMAGE, from which all goes on. */
public final class ImageTest {
    private static final Check CHECK = new Check();

    public static void main(String[] args) {
        none();
        goesBack();
        notTheTape();
        goesOnAlike();
        afterAnyCalls();
        packets();
        partOfAnOrder();
        CHECK.finish();
    }

    private static void none() {
        SpaceLinks x = new SpaceLinks();
        CHECK.due("image(false) of none", false, x.image(false));
        CHECK.due("image(true)", true, x.image(true));
        CHECK.due("image(false)", true, x.image(false));
        CHECK.due("image(false) again", true, x.image(false));
    }

    private static void goesBack() {
        SpaceLinks x = Check.running("cable e0 0.1;cable e1 0.2;table 0 40 stay 2;");
        x.image(true);
        x.tick(7);
        x.watch(50);
        x.odds(9);
        x.state(9);
        x.hold(1, true);
        x.table(0, 40, 0, false);
        x.unplug(33);
        x.broken(32, true);
        x.turn(5, false);
        x.time(0);
        Check.send(x, 0, 2, 9);
        x.image(false);
        CHECK.due("TICK", 10, x.look(0));
        CHECK.due("WATCH", 20, x.look(4));
        CHECK.due("ODDS", 0, x.look(18));
        CHECK.due("STATE of DRAWS", 0, x.look(19));
        CHECK.due("HOLDS", 0, x.endOf(1, 4));
        CHECK.due("TABLE", 4, x.tableOf(0, 40));
        CHECK.due("CABLES", 2, x.look(1));
        CHECK.due("BROKEN", 0, x.look(2));
        CHECK.due("ON", 1, x.socket(5, 4));
        CHECK.due("TIME", 0, x.endOf(0, 5));
        CHECK.due("QUEUE", 0, x.endOf(0, 0));
        CHECK.due("lines of THE LOG", 4, x.look(17));
        x.tick(1);
        x.image(true);
        x.tick(5);
        x.image(false);
        CHECK.due("the latest IMAGE", 11, x.look(0));
    }

    private static void notTheTape() {
        SpaceLinks x = new SpaceLinks();
        Check.text(x, "cable e0 e1;");
        x.image(true);
        Check.text(x, "no");
        x.feed(1, 2, 3, 4, 5);
        x.image(false);
        CHECK.due("THE TAPE stays", 20, x.look(14));
        CHECK.due("fault(0) stays", 1, x.fault(0));
        CHECK.due("fault(1) stays", 0, x.fault(1));
    }

    /** All that can be asked, TICK by TICK, is the same each time that it goes back. */
    private static void goesOnAlike() {
        SpaceLinks x = Check.running("cable e0 0.1;cable e1 0.2;cable 0.3 1.1;cable 0.4 1.2;cable e2 1.3;cable e3 1.4;"
                + "table 0 40 stay 3 4;table 1 40 go 3;");
        x.watch(5);
        x.odds(4);
        x.state(12345);
        x.hold(3, true);
        int[] packet = new int[40];
        packet[0] = 3;
        packet[1] = 4;
        Check.send(x, 0, packet);
        Check.send(x, 1, 40, 1, 2, 3, 4, 5, 6, 7, 8);
        Check.send(x, 0, 0, 2, 4, 0);
        Check.send(x, 1, 0, 1, 40, 8, 1);
        x.tick(13);
        x.time(1);
        isAlikeEachTime(x, "told");
    }

    /** The same from where calls by chance have led. */
    private static void afterAnyCalls() {
        for (int seed = 1; seed <= 60; seed++) {
            SpaceLinks x = new SpaceLinks();
            Random random = new Random(seed);
            Calls.lay(x, random);
            for (int call = 0; call < 200; call++) {
                Calls.one(x, random);
            }
            isAlikeEachTime(x, "chance " + seed);
        }
    }

    private static void isAlikeEachTime(SpaceLinks x, String name) {
        x.image(true);
        List<Integer> first = asked(x);
        for (int again = 0; again < 2; again++) {
            x.image(false);
            List<Integer> next = asked(x);
            for (int k = 0; k < first.size(); k++) {
                CHECK.due(name + ": answer " + k, first.get(k), next.get(k));
            }
        }
    }

    /** Packets that were RECEIVED are as they were, though others came since. */
    private static void packets() {
        SpaceLinks x = Check.running("cable e0 e1;");
        for (int k = 1; k <= 7; k++) {
            Check.send(x, 0, k, 60 + k);
        }
        x.tick(22);
        x.image(true);
        for (int k = 0; k < 6; k++) {
            Check.send(x, 0, 9, 9, 9, 9, 9, 9);
            x.tick(4);
            x.turn(32, false);
            x.turn(32, true);
            x.tick(10);
        }
        CHECK.due("none is WHOLE", 0, x.packet(1, 5, 1));
        x.image(false);
        CHECK.due("RECEIVED", 7, x.endOf(1, 1));
        CHECK.due("WHOLE ones", 7, x.endOf(1, 2));
        for (int i = 0; i < 6; i++) {
            CHECK.due("bytes of " + i, 2, x.packet(1, i, 0));
            CHECK.due("WHOLE " + i, 1, x.packet(1, i, 1));
            CHECK.due("TICK of " + i, 32 - 3 * i, x.packet(1, i, 2));
            CHECK.due("byte of " + i, 7 - i, x.byteOf(1, i, 0));
            CHECK.due("last byte of " + i, 67 - i, x.byteOf(1, i, 1));
        }
    }

    private static void partOfAnOrder() {
        SpaceLinks x = Check.running("cable e0 0.1;");
        Check.send(x, 0, 0, 1, 40, 4, 1);
        Check.send(x, 0, 0, 1, 41, 6, 0);
        x.tick(5);
        CHECK.due("SPILLING", 2, x.input(1, 0));
        x.image(true);
        x.tick(8);
        CHECK.due("both are WRITTEN", 2, x.router(0, 10));
        x.image(false);
        x.tick(2);
        CHECK.due("the first one", 260, x.tableOf(0, 40));
        CHECK.due("WRITTEN", 1, x.router(0, 10));
        x.tick(6);
        CHECK.due("the second one", 6, x.tableOf(0, 41));
    }

    private static List<Integer> asked(SpaceLinks x) {
        List<Integer> answers = new ArrayList<>();
        for (int t = 0; t < 20; t++) {
            All.ask(x, answers);
            x.tick(t % 3 + 1);
        }
        return answers;
    }
}
