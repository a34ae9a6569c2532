/** Section 2, parts (a) and (b), sentence by sentence: what is heard, what a DRAW spoils, how STATES grow. */
public final class EdgesOfTicksTest {
    private static final Check CHECK = new Check();

    public static void main(String[] args) {
        oneMore();
        heardByNumber();
        heardInTheNextTick();
        lowStatesHearNothing();
        quiet();
        startedHears();
        creditInFourAndFive();
        soldToTheLast();
        byteOrMarkInFour();
        timeInFour();
        noDrawWithoutNeed();
        lessThanOdds();
        drawWraps();
        grownByNumber();
        silent();
        silentAndAge();
        resetAndWait();
        startedAtTheLast();
        connectingAtTheLast();
        newState();
        CHECK.finish();
    }

    private static void oneMore() {
        CHECK.sentence("it is one more (0 at first; 99999 at most)");
        SpaceLinks x = new SpaceLinks();
        CHECK.due("at first", 0, x.look(0));
        CHECK.due("one more", 1, x.tick(1));
        // The most by 512 calls of 100 TICKS each; see OutOfReachTest for what can't come about.
        for (int k = 0; k < 500; k++) {
            x.tick(100);
        }
        CHECK.due("TICK", 50001, x.look(0));
        CHECK.due("AGE", 50001, x.socket(1, 1));
    }

    /** The latest lines of THE LOG, the last one first: what and SOCKET of each. */
    private static void lines(SpaceLinks x, int[] whats, int[] sockets) {
        for (int i = 0; i < whats.length; i++) {
            CHECK.due("what of line " + i, whats[i], x.log(i, 1));
            CHECK.due("SOCKET of line " + i, sockets[i], x.log(i, 2));
            CHECK.due("TICK of line " + i, x.look(0), x.log(i, 0));
        }
    }

    private static void heardByNumber() {
        CHECK.sentence("(a) Each SOCKET, by number, hears");
        SpaceLinks x = Check.running("cable e7 0.1;cable 3.7 e0;");
        x.odds(1000);
        x.tick(1);
        lines(x, new int[] {1, 3, 1, 3, 1, 3, 1, 3}, new int[] {39, 39, 32, 32, 31, 31, 1, 1});
        CHECK.due("a DRAW each", next(next(next(next(0)))), x.look(19));
    }

    private static void grownByNumber() {
        CHECK.sentence("(b) each SOCKET, by number: is it in 4 or 5");
        SpaceLinks x = new SpaceLinks();
        Check.text(x, "cable e7 0.1;cable 3.7 e0;");
        x.tick(8);
        lines(x, new int[] {0, 0, 0, 0}, new int[] {39, 32, 31, 1});
        x.broken(1, true);
        x.odds(1000);
        x.tick(1);
        // (a) of all comes ahead of (b) of all.
        lines(x, new int[] {1, 2, 1, 2, 1, 3, 1, 3}, new int[] {39, 39, 1, 1, 32, 32, 31, 31});
    }

    private static void heardInTheNextTick() {
        CHECK.sentence("hears what the other one of its CABLE sent in the TICK ahead, if the CABLE is WHOLE (else, or if that sent nothing: nothing)");
        SpaceLinks x = Check.running("cable e0 e1;");
        x.hold(0, true);
        x.hold(1, true);
        Check.send(x, 0, 5);
        Check.send(x, 1, 6);
        x.tick(1);
        CHECK.due("not in the same TICK, by the lower one", 0, x.socket(32, 7));
        CHECK.due("not in the same TICK, by the higher one", 0, x.socket(33, 7));
        x.tick(1);
        CHECK.due("heard by the lower one", 6, x.buffer(32, 0));
        CHECK.due("heard by the higher one", 5, x.buffer(33, 0));

        x = Check.running("cable e0 e1;");
        x.hold(1, true);
        Check.send(x, 0, 5, 7);
        x.tick(1);
        x.broken(32, true);
        x.tick(1);
        CHECK.due("BROKEN: nothing is heard", 0, x.socket(33, 13));
        CHECK.due("nothing came", 0, x.socket(33, 7));
        CHECK.due("SILENT, both", 2, x.look(13));

        x = Check.running("cable e0 e1;");
        x.hold(1, true);
        Check.send(x, 0, 5);
        x.tick(1);
        x.broken(32, true);
        x.broken(32, false);
        x.tick(1);
        CHECK.due("WHOLE again in time", 5, x.buffer(33, 0));

        x = Check.running("cable e0 e1;");
        x.unplug(32);
        x.plug(32, 34);
        x.plug(33, 35);
        x.tick(1);
        CHECK.due("another CABLE: who sent nothing is not heard", 1, x.socket(34, 0));
    }

    private static void lowStatesHearNothing() {
        CHECK.sentence("STATES 0 to 2 hear nothing.");
        // 32 is STARTED from 6 on, and sends; 33 is OFF to 3, RESET to 5, WAIT to 9.
        SpaceLinks x = new SpaceLinks();
        x.plug(32, 33);
        x.turn(33, false);
        x.tick(3);
        x.turn(33, true);
        x.tick(5);
        CHECK.due("32 sends", 258, x.socket(32, 9));
        CHECK.due("33 is WAIT", 2, x.socket(33, 0));
        CHECK.due("AGE", 3, x.socket(33, 1));
        CHECK.due("QUIET of WAIT", 0, x.socket(33, 8));
        x.tick(1);
        CHECK.due("STARTED, and has heard nothing yet", 3, x.socket(33, 0));
        x.tick(1);
        CHECK.due("has heard now", 4, x.socket(33, 0));
        CHECK.due("as the other one has", 4, x.socket(32, 0));

        SpaceLinks off = Check.running("cable e0 e1;");
        off.turn(33, false);
        Check.send(off, 0, 5);
        off.odds(1000);
        off.tick(1);
        CHECK.due("OFF hears nothing of what is sent", 0, off.socket(33, 13));
        CHECK.due("nor is it SPOILED", 0, off.socket(33, 16));
        CHECK.due("QUIET of OFF", 0, off.socket(33, 8));
    }

    private static void quiet() {
        CHECK.sentence("QUIET (in 3 to 5): 0 as something is heard, else one more.");
        SpaceLinks x = new SpaceLinks();
        x.plug(32, 33);
        x.turn(33, false);
        x.tick(6);
        for (int quiet = 0; quiet <= 5; quiet++) {
            CHECK.due("QUIET in STARTED", quiet, x.socket(32, 8));
            x.tick(1);
        }
        SpaceLinks y = new SpaceLinks();
        y.plug(32, 33);
        for (int t = 1; t <= 30; t++) {
            y.tick(1);
            CHECK.due("QUIET at " + t, 0, y.socket(33, 8));
        }
    }

    private static void startedHears() {
        CHECK.sentence("3: anything heard: it HAS HEARD.");
        SpaceLinks x = new SpaceLinks();
        x.plug(32, 33);
        x.tick(6);
        CHECK.due("NULL is sent", 258, x.socket(33, 9));
        x.tick(1);
        CHECK.due("NULL is enough", 4, x.socket(32, 0));
        CHECK.due("and no CREDIT yet", 0, x.socket(32, 5));
    }

    private static void creditInFourAndFive() {
        CHECK.sentence("4, 5: CREDIT: BOUGHT is 8 more (above 24: it FALLS, RESET), it HAS CREDIT.");
        SpaceLinks x = new SpaceLinks();
        x.plug(32, 33);
        int[] bought = {0, 8, 16, 24, 24, 24};
        x.tick(6);
        for (int k = 0; k < bought.length; k++) {
            x.tick(1);
            CHECK.due("BOUGHT at " + (7 + k), bought[k], x.socket(32, 5));
        }
        x.tick(100);
        CHECK.due("24 is not above it", 5, x.socket(32, 0));
        CHECK.due("BOUGHT", 24, x.socket(32, 5));
        CHECK.due("FELL", 0, x.look(12));
        Check.send(x, 0, new int[100]);
        for (int k = 0; k < 100; k++) {
            x.tick(1);
            CHECK.due("never above 24", true, x.socket(32, 5) <= 24 && x.socket(32, 5) >= 15);
        }
        CHECK.due("FELL", 0, x.look(12));
    }

    private static void soldToTheLast() {
        CHECK.sentence("a byte or MARK: SOLD is one less (was it 0: it FALLS, RESET), it comes into the BUFFER.");
        SpaceLinks x = Check.running("cable e0 e1;");
        x.hold(1, true);
        Check.send(x, 0, new int[22]);
        Check.send(x, 0, 9, 9);
        x.tick(1);
        for (int came = 1; came <= 24; came++) {
            x.tick(1);
            CHECK.due("BUFFER", came, x.socket(33, 7));
            CHECK.due("SOLD", 24 - came, x.socket(33, 6));
        }
        CHECK.due("the MARK", 256, x.buffer(33, 22));
        x.tick(30);
        CHECK.due("the last that was sold came, and no more", 24, x.socket(33, 7));
        CHECK.due("STATE", 5, x.socket(33, 0));
    }

    /** END 1 has a BUFFER of so many that it sells nothing: 33 comes to RUN, 32 stays CONNECTING. */
    private static SpaceLinks halfOpen(String cables, int end) {
        SpaceLinks x = Check.running(cables);
        x.hold(1, true);
        x.watch(200);
        Check.send(x, end, Check.bytes(40, 5));
        x.tick(40);
        return x;
    }

    private static void byteOrMarkInFour() {
        CHECK.sentence("4: a byte or MARK: it FALLS, RESET.");
        SpaceLinks x = halfOpen("cable e0 e1;", 0);
        x.turn(33, false);
        x.turn(33, true);
        Check.send(x, 1, 3, 4);
        x.tick(9);
        CHECK.due("33 sends a byte", 3, x.socket(33, 9));
        CHECK.due("32 is CONNECTING", 4, x.socket(32, 0));
        x.tick(1);
        CHECK.due("a byte: RESET", 1, x.socket(32, 0));
        CHECK.due("FELL", 2, x.socket(32, 10));
        CHECK.due("nothing came", 0, x.socket(32, 7));
        CHECK.due("but it was heard", 1, x.socket(32, 13));
        CHECK.due("33 is still in RUN", 5, x.socket(33, 0));

        // PORT 2 is full of what WAITS for PORT 5; a packet with a HEAD alone goes out by it as a MARK alone.
        SpaceLinks y = halfOpen("cable 0.1 e0;cable 0.2 e1;", 1);
        CHECK.due("BUFFER of PORT 2", 24, y.socket(2, 7));
        y.turn(2, false);
        y.turn(2, true);
        y.tick(7);
        Check.send(y, 0, 2);
        y.tick(1);
        CHECK.due("33 is CONNECTING", 4, y.socket(33, 0));
        y.tick(1);
        CHECK.due("PORT 2 is in RUN", 5, y.socket(2, 0));
        CHECK.due("ROUTED", 2, y.input(1, 1));
        y.tick(1);
        CHECK.due("PORT 2 sends a MARK", 256, y.socket(2, 9));
        CHECK.due("33 is CONNECTING yet", 4, y.socket(33, 0));
        y.tick(1);
        CHECK.due("a MARK: RESET", 1, y.socket(33, 0));
        CHECK.due("not SILENT", 1, y.socket(33, 11));
        CHECK.due("nothing came", 0, y.socket(33, 7));
    }

    private static void timeInFour() {
        CHECK.sentence("5: TIME: section 3");
        SpaceLinks x = halfOpen("cable e0 e1;", 0);
        x.turn(33, false);
        x.turn(33, true);
        x.tick(9);
        CHECK.due("33 is in RUN", 1, x.time(1));
        x.tick(2);
        CHECK.due("32 is CONNECTING, and stays so", 4, x.socket(32, 0));
        CHECK.due("TIME is nothing to it", 0, x.endOf(0, 5));
        CHECK.due("STEPS", 0, x.endOf(0, 6));
        CHECK.due("JUMPS", 0, x.endOf(0, 7));
    }

    private static int next(int state) {
        return (int) (1664525L * state + 1013904223L);
    }

    /** The DRAW behind a STATE, in numbers that don't wrap. */
    private static int drawBehind(int state) {
        long without = next(state) & 0xFFFFFFFFL;
        return (int) (without / 256 % 1000);
    }

    private static void noDrawWithoutNeed() {
        CHECK.sentence("(With ODDS above 0 as one in 4, 5 hears something a DRAW of 1000 comes first");
        SpaceLinks x = new SpaceLinks();
        x.plug(32, 33);
        x.odds(1);
        x.state(1);
        x.tick(6);
        CHECK.due("nothing is heard", 1, x.look(19));
        x.tick(1);
        CHECK.due("heard in STATE 3", 1, x.look(19));
        x.tick(1);
        CHECK.due("two DRAWS in STATE 4", next(next(1)), x.look(19));
        x.tick(1);
        CHECK.due("two more in STATE 5", next(next(next(next(1)))), x.look(19));
        int before = x.look(19);
        x.odds(0);
        x.tick(3);
        CHECK.due("ODDS 0", before, x.look(19));
        x.odds(1000);
        x.broken(32, true);
        x.tick(1);
        CHECK.due("nothing is heard any more", before, x.look(19));
        CHECK.due("nobody is SPOILED", 0, x.look(16));
        CHECK.due("both are SILENT", 2, x.look(13));
    }

    private static void lessThanOdds() {
        CHECK.sentence("is it less than ODDS, it is SPOILED (counts): nothing of these, it FALLS, RESET.)");
        for (int state = 0; state < 40; state++) {
            int draw = drawBehind(state);
            CHECK.due("SPOILED by ODDS as the DRAW, STATE " + state, 0, hearsAByte(draw, state).socket(32, 16));
            CHECK.due("SPOILED by ODDS one more, STATE " + state, 1, hearsAByte(draw + 1, state).socket(32, 16));
        }
        SpaceLinks x = hearsAByte(1000, 5);
        CHECK.due("nothing came, and so no ERROR MARK", 0, x.socket(32, 7));
        CHECK.due("SOLD", 0, x.socket(32, 6));
        CHECK.due("RESET", 1, x.socket(32, 0));
        CHECK.due("FELL", 1, x.socket(32, 10));
        CHECK.due("not SILENT", 0, x.socket(32, 11));
        CHECK.due("the other one hears yet what was sent, and is SPOILED, too", 1, x.socket(33, 16));

        SpaceLinks y = Check.running("cable e0 e1;");
        y.time(1);
        y.tick(1);
        y.odds(1000);
        y.tick(1);
        CHECK.due("no TIME either", 0, y.endOf(0, 5));
        SpaceLinks z = new SpaceLinks();
        z.plug(32, 33);
        z.tick(7);
        z.odds(1000);
        z.tick(1);
        CHECK.due("no CREDIT either", 0, z.socket(32, 5));
        CHECK.due("RESET", 1, z.socket(32, 0));
    }

    /** 32, which draws first, hears a byte with these ODDS and this STATE of DRAWS. */
    private static SpaceLinks hearsAByte(int odds, int state) {
        SpaceLinks x = Check.running("cable e0 e1;");
        x.hold(0, true);
        Check.send(x, 1, 5);
        x.tick(1);
        x.state(state);
        x.odds(odds);
        x.tick(1);
        return x;
    }

    private static void drawWraps() {
        CHECK.sentence("STATE (an int, 0 at first) becomes 1664525 times itself + 1013904223 (ints, which wrap), then it is its highest 24 bits (without sign) modulo 1000.");
        CHECK.due("STATE at first", 0, new SpaceLinks().look(19));
        int[] states = {0, 1, -1, 2, 1000, -1000, 123456789, Integer.MAX_VALUE, Integer.MIN_VALUE, 0x55555555, -1515870811};
        int below = 0;
        for (int state : states) {
            below += next(state) < 0 ? 1 : 0;
            int draw = drawBehind(state);
            SpaceLinks x = Check.running("cable e0 e1;");
            x.state(state);
            x.odds(Math.max(draw, 1));
            x.tick(1);
            CHECK.due("32 is SPOILED, STATE " + state, draw == 0 ? 1 : 0, x.socket(32, 16));
            CHECK.due("STATE behind two DRAWS", next(next(state)), x.look(19));
            x = Check.running("cable e0 e1;");
            x.state(state);
            x.odds(draw + 1);
            x.tick(1);
            CHECK.due("32 is SPOILED by one more, STATE " + state, 1, x.socket(32, 16));
        }
        CHECK.due("STATES below 0 were among them", true, below > 0 && below < states.length);
    }

    private static void silent() {
        CHECK.sentence("is it in 4 or 5, and QUIET above 0: it is SILENT (counts), and FALLS, RESET.");
        int[] ticks = {6, 7, 8, 30};
        for (int t : ticks) {
            SpaceLinks x = new SpaceLinks();
            x.plug(32, 33);
            x.tick(t);
            x.broken(32, true);
            x.tick(1);
            CHECK.due("SILENT, broken at " + t, t == 6 ? 0 : 1, x.socket(32, 11));
            CHECK.due("FELL, broken at " + t, t == 6 ? 0 : 1, x.socket(32, 10));
            CHECK.due("STATE, broken at " + t, t == 6 ? 3 : 1, x.socket(32, 0));
            x.tick(1);
            CHECK.due("SILENT once", t == 6 ? 0 : 1, x.socket(32, 11));
        }
    }

    private static void silentAndAge() {
        CHECK.sentence("Else AGE is one more; then:");
        SpaceLinks x = Check.running("cable e0 e1;");
        x.broken(32, true);
        x.tick(1);
        CHECK.due("AGE of one that is SILENT in (b)", 0, x.socket(32, 1));
        SpaceLinks y = Check.running("cable e0 e1;");
        y.odds(1000);
        y.tick(1);
        CHECK.due("AGE of one that FELL in (a)", 1, y.socket(32, 1));
        y.odds(0);
        y.tick(1);
        CHECK.due("WAIT with AGE 2", 2, y.socket(32, 0));
    }

    private static void resetAndWait() {
        CHECK.sentence("RESET with AGE 2: WAIT; WAIT with AGE 4: STARTED (has heard nothing)");
        SpaceLinks x = new SpaceLinks();
        x.plug(32, 33);
        int[] states = {1, 1, 2, 2, 2, 2, 3};
        int[] ages = {0, 1, 0, 1, 2, 3, 0};
        for (int t = 0; t < 7; t++) {
            CHECK.due("STATE at " + t, states[t], x.socket(33, 0));
            CHECK.due("AGE at " + t, ages[t], x.socket(33, 1));
            x.tick(1);
        }
        // It had heard as it was in RUN before.
        SpaceLinks y = Check.running("cable e0 e1;");
        y.turn(33, false);
        y.tick(7);
        CHECK.due("STARTED", 3, y.socket(32, 0));
        y.tick(1);
        CHECK.due("it has heard nothing since", 3, y.socket(32, 0));
    }

    private static void startedAtTheLast() {
        CHECK.sentence("STARTED that HAS HEARD: CONNECTING (has no CREDIT), else with AGE 6: RESET (FALLS)");
        // 32 is STARTED at 6 and has AGE 6 at 12; 33 sends its first NULL six TICKS behind its turn().
        for (int late = 5; late <= 6; late++) {
            SpaceLinks x = new SpaceLinks();
            x.plug(32, 33);
            x.turn(33, false);
            x.tick(late);
            x.turn(33, true);
            x.tick(11 - late);
            CHECK.due("STARTED at 11", 3, x.socket(32, 0));
            CHECK.due("AGE", 5, x.socket(32, 1));
            x.tick(1);
            boolean isHeard = late < 6;
            CHECK.due("at 12, late by " + late, isHeard ? 4 : 1, x.socket(32, 0));
            CHECK.due("FELL, late by " + late, isHeard ? 0 : 1, x.socket(32, 10));
            CHECK.due("AGE", 0, x.socket(32, 1));
            CHECK.due("BOUGHT", 0, x.socket(32, 5));
        }
    }

    /**
     * 33 has 25 in its BUFFER and sells nothing. It was turned at 50, so 32 is CONNECTING at 58 and has AGE 6 at 64;
     * END 1 takes one a TICK from when it does not HOLD: the ninth leaves 16, and CREDIT is sent.
     */
    private static void connectingAtTheLast() {
        CHECK.sentence("CONNECTING that HAS CREDIT: RUN, else with AGE 6: RESET (FALLS).");
        for (int free = 53; free <= 55; free++) {
            SpaceLinks x = Check.running("cable e0 e1;");
            x.hold(1, true);
            Check.send(x, 0, new int[30]);
            x.tick(40);
            x.turn(33, false);
            x.turn(33, true);
            x.tick(free - 50);
            x.hold(1, false);
            x.tick(58 - free);
            CHECK.due("CONNECTING at 58", 4, x.socket(32, 0));
            CHECK.due("AGE at 58", 0, x.socket(32, 1));
            x.tick(4);
            CHECK.due("CONNECTING at 62", 4, x.socket(32, 0));
            x.tick(1);
            CHECK.due("STATE at 63, free at " + free, free == 53 ? 5 : 4, x.socket(32, 0));
            CHECK.due("AGE at 63, free at " + free, free == 53 ? 0 : 5, x.socket(32, 1));
            x.tick(1);
            CHECK.due("STATE at 64, free at " + free, free <= 54 ? 5 : 1, x.socket(32, 0));
            CHECK.due("FELL at 64, free at " + free, free <= 54 ? 1 : 2, x.socket(32, 10));
            CHECK.due("BOUGHT at 64, free at " + free, free <= 54 ? 8 : 0, x.socket(32, 5));
            CHECK.due("not SILENT", 1, x.socket(32, 11));
        }
    }

    private static void newState() {
        CHECK.sentence("(With a new STATE AGE, QUIET are 0.)");
        SpaceLinks x = new SpaceLinks();
        x.plug(32, 33);
        x.turn(33, false);
        x.tick(11);
        CHECK.due("QUIET", 5, x.socket(32, 8));
        CHECK.due("AGE", 5, x.socket(32, 1));
        x.tick(1);
        CHECK.due("RESET: QUIET", 0, x.socket(32, 8));
        CHECK.due("RESET: AGE", 0, x.socket(32, 1));
        x.tick(7);
        CHECK.due("QUIET", 1, x.socket(32, 8));
        x.turn(32, false);
        CHECK.due("OFF: QUIET", 0, x.socket(32, 8));
        CHECK.due("OFF: AGE", 0, x.socket(32, 1));
    }
}
