/** Promise 33: look. */
public final class LookTest {
    private static final Check CHECK = new Check();

    public static void main(String[] args) {
        CHECK.sentence("What 0 TICK, 1 CABLES, 2 BROKEN ones, 3 SOCKETS in RUN, 4 WATCH, 5 packets RECEIVED in all, 6 WHOLE ones, 7 NULLS that were sent, 8 CREDITS, 9 TIMES, 10 bytes, 11 MARKS (7 to 11: by all), 12 how often SOCKETS FELL, 13 were SILENT, 14 bytes of THE TAPE, 15 what is in all BUFFERS, 16 SPOILED by all, 17 lines of THE LOG (all that came)");
        SpaceLinks x = Check.running("cable e0 0.1;cable e1 0.2;cable e2 e3;cable 3.1 3.2;");
        CHECK.due("look(-1)", -1, x.look(-1));
        CHECK.due("look(20)", -1, x.look(20));
        CHECK.due("look(MIN)", -1, x.look(Integer.MIN_VALUE));
        x.hold(1, true);
        x.watch(60);
        x.state(-9);
        Check.send(x, 0, 2, 7, 7);
        Check.send(x, 2, 5);
        x.time(0);
        x.tick(10);
        x.broken(34, true);
        x.tick(1);
        x.feed(0, 0, 0, 0, 0);
        // Eight SOCKETS sent a NULL each at 6, CREDIT at 7, 8 and 9, and one character each in the eleven
        // TICKS to 20: 2 TIMES (END 0, PORT 2), bytes and MARKS (END 0, PORT 2, END 2), else NULLS.
        // At 21 the two of the BROKEN CABLE send nothing.
        int bytes = 3 + 2 + 1;
        int marks = 1 + 1 + 1;
        int nulls = 8 + 88 - 2 - bytes - marks + 6;
        int[] due = {21, 4, 1, 6, 60, 1, 1, nulls, 24, 2, bytes, marks, 2, 2, 20, 3, 0, 14, 0, -9};
        for (int what = 0; what < 20; what++) {
            CHECK.due("look(" + what + ")", due[what], x.look(what));
        }
        x.odds(1000);
        x.tick(1);
        CHECK.due("SPOILED", 6, x.look(16));
        CHECK.due("FELL", 8, x.look(12));
        CHECK.due("in RUN", 0, x.look(3));
        CHECK.due("ODDS", 1000, x.look(18));
        CHECK.finish();
    }
}
