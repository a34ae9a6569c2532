/** Section 2, part (d), and section 3, sentence by sentence: what is sent first, CREDIT, TIME. */
public final class EdgesOfSendingTest {
    private static final Check CHECK = new Check();
    private static final String STAR = "cable 0.1 e0;cable 0.2 e1;cable 0.3 e2;";

    public static void main(String[] args) {
        startedSendsNull();
        connectingSendsCreditIfItMay();
        creditAtSixteen();
        byNumber();
        timeThenCreditThenBytes();
        nothingBought();
        errorMarkFirst();
        nothingToSend();
        oneLess();
        freeBehindAMark();
        othersSendNothing();
        queue();
        timeAtFirst();
        oneMore();
        wrapsAround();
        sameTime();
        jumps();
        otherPortsInRun();
        oneAtMost();
        CHECK.finish();
    }

    private static void startedSendsNull() {
        CHECK.sentence("each SOCKET, by number, sends: 3: NULL.");
        SpaceLinks x = new SpaceLinks();
        x.plug(32, 33);
        x.turn(33, false);
        Check.send(x, 0, 5);
        x.tick(5);
        CHECK.due("WAIT sends nothing", -1, x.socket(32, 9));
        for (int t = 6; t <= 11; t++) {
            x.tick(1);
            CHECK.due("STARTED at " + t, 258, x.socket(32, 9));
            CHECK.due("SOLD", 0, x.socket(32, 6));
        }
        x.tick(1);
        CHECK.due("RESET sends nothing", -1, x.socket(32, 9));
        CHECK.due("NULLS", 6, x.look(7));
    }

    /** 33 has so many in its BUFFER, whole packets, as both start again: it is CONNECTING at the eighth TICK. */
    private static SpaceLinks connecting(int inBuffer) {
        SpaceLinks x = Check.running("cable e0 e1;");
        x.hold(1, true);
        Check.send(x, 0, new int[inBuffer - 1]);
        x.tick(30);
        CHECK.due("BUFFER", inBuffer, x.socket(33, 7));
        x.unplug(32);
        x.plug(32, 33);
        x.tick(7);
        CHECK.due("CONNECTING", 4, x.socket(33, 0));
        return x;
    }

    private static void connectingSendsCreditIfItMay() {
        CHECK.sentence("4: CREDIT, if it may (BUFFER and SOLD together no more than 16: SOLD is 8 more), else NULL.");
        int[] inBuffers = {2, 8, 9, 15, 16, 17, 18, 24};
        for (int inBuffer : inBuffers) {
            SpaceLinks x = connecting(inBuffer);
            CHECK.due("sent with " + inBuffer, inBuffer <= 16 ? 259 : 258, x.socket(33, 9));
            CHECK.due("SOLD with " + inBuffer, inBuffer <= 16 ? 8 : 0, x.socket(33, 6));
            CHECK.due("the other one sells", 259, x.socket(32, 9));
            x.tick(1);
            CHECK.due("STATE of the other one", inBuffer <= 16 ? 5 : 4, x.socket(32, 0));
            // BUFFER and SOLD together: with 8 and 8 it may once more.
            CHECK.due("then, with " + inBuffer, inBuffer <= 8 ? 259 : 258, x.socket(33, 9));
        }
    }

    private static void creditAtSixteen() {
        CHECK.sentence("else CREDIT, if it may;");
        // In RUN each byte that is taken leaves room: at BUFFER and SOLD 16 together, CREDIT is sent.
        SpaceLinks x = Check.running("cable e0 e1;");
        Check.send(x, 0, new int[60]);
        x.tick(1);
        for (int t = 0; t < 50; t++) {
            int room = x.socket(33, 6) + x.socket(33, 7);
            CHECK.due("more than 16 behind a TICK", true, room > 16 && room <= 24);
            x.tick(1);
            CHECK.due("CREDIT as 16 are left", room == 17 ? 259 : 258, x.socket(33, 9));
            CHECK.due("SOLD is 8 more", room == 17 ? 24 : room - 1, x.socket(33, 6));
        }
        // A BUFFER that is full of what is not taken.
        SpaceLinks y = Check.running("cable e0 e1;");
        y.hold(1, true);
        Check.send(y, 0, new int[60]);
        y.tick(60);
        CHECK.due("24 in the BUFFER: NULL", 258, y.socket(33, 9));
        y.hold(1, false);
        for (int left = 23; left >= 17; left--) {
            y.tick(1);
            CHECK.due("BUFFER", left, y.socket(33, 7));
            CHECK.due("no CREDIT with " + left, 258, y.socket(33, 9));
        }
        y.tick(1);
        CHECK.due("CREDIT with 16", 259, y.socket(33, 9));
        CHECK.due("SOLD", 8, y.socket(33, 6));
        y.tick(1);
        CHECK.due("15 and 8: none", 258, y.socket(33, 9));
    }

    private static void byNumber() {
        CHECK.sentence("(d) each SOCKET, by number, sends");
        // From END 0 to END 1: PORT 1 looks whether it may sell ahead of PORT 2, which takes from its BUFFER.
        SpaceLinks x = Check.running(STAR);
        Check.send(x, 0, Check.bytes(40, 2));
        x.tick(9);
        CHECK.due("one is in the BUFFER yet as SOLD is 16", 258, x.socket(1, 9));
        CHECK.due("SOLD", 16, x.socket(1, 6));
        CHECK.due("BUFFER behind the TICK", 0, x.socket(1, 7));
        x.tick(1);
        CHECK.due("CREDIT, one TICK later", 259, x.socket(1, 9));
        // From END 1 to END 0: PORT 1 takes from the BUFFER of PORT 2 ahead of that.
        SpaceLinks y = Check.running(STAR);
        Check.send(y, 1, Check.bytes(40, 1));
        y.tick(8);
        CHECK.due("no CREDIT yet", 258, y.socket(2, 9));
        y.tick(1);
        CHECK.due("CREDIT", 259, y.socket(2, 9));
        CHECK.due("SOLD", 24, y.socket(2, 6));
    }

    private static void timeThenCreditThenBytes() {
        CHECK.sentence("5: a TIME that is to be sent; else CREDIT, if it may; else, with BOUGHT above 0,");
        SpaceLinks x = new SpaceLinks();
        x.plug(32, 33);
        Check.send(x, 0, 5, 6);
        x.tick(8);
        CHECK.due("in RUN, CREDIT", 259, x.socket(32, 9));
        CHECK.due("SOLD", 16, x.socket(32, 6));
        x.time(0);
        int[] due = {261, 259, 5, 6, 256, 258, 258};
        for (int c : due) {
            x.tick(1);
            CHECK.due("sent at " + x.look(0), c, x.socket(32, 9));
        }
        CHECK.due("TIMES", 1, x.look(9));
    }

    private static void nothingBought() {
        CHECK.sentence("BOUGHT is one less; else NULL.");
        SpaceLinks x = Check.running("cable e0 e1;");
        x.hold(1, true);
        Check.send(x, 0, new int[60]);
        for (int sent = 1; sent <= 24; sent++) {
            x.tick(1);
            CHECK.due("a byte", 0, x.socket(32, 9));
            CHECK.due("BOUGHT", 24 - sent, x.socket(32, 5));
        }
        for (int t = 0; t < 10; t++) {
            x.tick(1);
            CHECK.due("NULL with BOUGHT 0", 258, x.socket(32, 9));
            CHECK.due("BOUGHT", 0, x.socket(32, 5));
            CHECK.due("QUEUE", 37, x.endOf(0, 0));
        }
        CHECK.due("TIME goes all the same", 1, x.time(0));
        x.tick(1);
        CHECK.due("TIME", 261, x.socket(32, 9));
    }

    private static void errorMarkFirst() {
        CHECK.sentence("else, with BOUGHT above 0, the ERROR MARK that it owes, else the next byte or MARK");
        SpaceLinks x = Check.running(STAR);
        x.watch(5);
        x.hold(1, true);
        Check.send(x, 0, Check.bytes(40, 2));
        x.tick(32);
        CHECK.due("owes", 1, x.socket(2, 14));
        x.tick(20);
        CHECK.due("owes yet, BOUGHT 0", 1, x.socket(2, 14));
        CHECK.due("NULL", 258, x.socket(2, 9));
        x.hold(1, false);
        x.tick(8);
        CHECK.due("CREDIT is on its way", 259, x.socket(33, 9));
        CHECK.due("owes yet", 1, x.socket(2, 14));
        CHECK.due("bytes and MARKS that it sent", 24, x.socket(2, 12));
        int marks = x.look(11);
        x.tick(1);
        CHECK.due("the ERROR MARK", 257, x.socket(2, 9));
        CHECK.due("it is a MARK that it sent", 25, x.socket(2, 12));
        CHECK.due("MARKS by all", marks + 1, x.look(11));
        CHECK.due("BOUGHT", 7, x.socket(2, 5));
        CHECK.due("owes no more", 0, x.socket(2, 14));
        x.tick(40);
        CHECK.due("the packet is not WHOLE", 0, x.packet(1, 0, 1));
        CHECK.due("24 bytes of it came", 24, x.packet(1, 0, 0));
        CHECK.due("one ERROR MARK alone", 1, x.endOf(1, 1));
    }

    private static void nothingToSend() {
        CHECK.sentence("of a PORT from BUFFER of the INPUT that is ROUTED to it (behind a MARK: that is FREE), of an END from its QUEUE");
        SpaceLinks x = Check.running(STAR);
        x.tick(1);
        CHECK.due("an empty QUEUE", 258, x.socket(32, 9));
        CHECK.due("no INPUT", 258, x.socket(2, 9));
        Check.send(x, 0, 2, 7);
        x.tick(2);
        CHECK.due("ROUTED", 2, x.input(1, 1));
        CHECK.due("an empty BUFFER", 258, x.socket(2, 9));
        CHECK.due("BOUGHT", 24, x.socket(2, 5));
        x.tick(1);
        CHECK.due("from the BUFFER", 7, x.socket(2, 9));
        CHECK.due("another PORT sends none of it", 258, x.socket(3, 9));
    }

    private static void oneLess() {
        CHECK.sentence("BOUGHT is one less;");
        SpaceLinks x = Check.running("cable e0 e1;");
        Check.send(x, 0, 5);
        x.tick(1);
        CHECK.due("a byte", 23, x.socket(32, 5));
        x.tick(1);
        CHECK.due("a MARK", 22, x.socket(32, 5));
        x.tick(1);
        CHECK.due("NULL costs nothing", 22, x.socket(32, 5));
        x.time(0);
        x.tick(1);
        CHECK.due("TIME costs nothing", 22, x.socket(32, 5));
        CHECK.due("bytes and MARKS sent", 2, x.socket(32, 12));
    }

    private static void freeBehindAMark() {
        CHECK.sentence("(behind a MARK: that is FREE)");
        SpaceLinks x = Check.running(STAR);
        Check.send(x, 0, 2, 7);
        Check.send(x, 0, 2, 8);
        x.tick(3);
        CHECK.due("ROUTED yet", 1, x.input(1, 0));
        x.tick(1);
        CHECK.due("the MARK is sent", 256, x.socket(2, 9));
        CHECK.due("FREE", 0, x.input(1, 0));
        CHECK.due("to none", -1, x.input(1, 1));
        CHECK.due("from none", -1, x.input(2, 3));
        x.tick(1);
        CHECK.due("ROUTED again", 2, x.router(0, 4));
    }

    private static void othersSendNothing() {
        CHECK.sentence("else NULL. Others: nothing.");
        SpaceLinks x = new SpaceLinks();
        x.plug(32, 33);
        for (int t = 0; t <= 5; t++) {
            CHECK.due("RESET and WAIT, at " + t, -1, x.socket(32, 9));
            CHECK.due("OFF, at " + t, -1, x.socket(34, 9));
            x.tick(1);
        }
        CHECK.due("STARTED", 258, x.socket(32, 9));
        CHECK.due("OFF", -1, x.socket(34, 9));
        x.tick(5);
        x.broken(32, true);
        x.tick(1);
        CHECK.due("one that FELL", -1, x.socket(32, 9));
    }

    private static void queue() {
        CHECK.sentence("QUEUE of an END: up to 120 bytes and MARKS.");
        SpaceLinks x = new SpaceLinks();
        CHECK.due("119 and a MARK", 120, Check.send(x, 0, new int[119]));
        CHECK.due("120 and a MARK", -1, Check.send(x, 1, new int[120]));
        CHECK.due("QUEUE of that", 0, x.endOf(1, 0));
        for (int k = 1; k <= 60; k++) {
            CHECK.due("a byte and a MARK", 2 * k, Check.send(x, 2, k));
        }
        CHECK.due("no room for more", -1, Check.send(x, 2, 61));
        CHECK.due("118", 119, Check.send(x, 3, new int[118]));
        CHECK.due("one is not enough for a byte and a MARK", -1, Check.send(x, 3, 1));
        CHECK.due("QUEUE", 119, x.endOf(3, 0));
        SpaceLinks y = Check.running("cable e0 e1;");
        Check.send(y, 0, new int[119]);
        y.tick(1);
        CHECK.due("119 are left: no room for two", -1, Check.send(y, 0, 9));
        y.tick(1);
        CHECK.due("118 are left: room for two", 120, Check.send(y, 0, 9));
    }

    private static void timeAtFirst() {
        CHECK.sentence("each ROUTER, each END has a TIME (0 at first).");
        SpaceLinks x = new SpaceLinks();
        for (int r = 0; r < 4; r++) {
            CHECK.due("TIME of ROUTER " + r, 0, x.router(r, 1));
        }
        for (int e = 0; e < 8; e++) {
            CHECK.due("TIME of END " + e, 0, x.endOf(e, 5));
        }
        CHECK.due("none is to be sent", -1, x.socket(32, 15));
    }

    private static void oneMore() {
        CHECK.sentence("is v one more (modulo 64): that is its TIME, STEPS counts");
        SpaceLinks x = Check.running(STAR);
        x.time(0);
        x.tick(3);
        CHECK.due("TIME of the ROUTER", 1, x.router(0, 1));
        CHECK.due("STEPS of the ROUTER", 1, x.router(0, 2));
        CHECK.due("TIME of END 1", 1, x.endOf(1, 5));
        CHECK.due("STEPS of END 1", 1, x.endOf(1, 6));
        CHECK.due("JUMPS of END 1", 0, x.endOf(1, 7));
        CHECK.due("the one that sent it counts none", 0, x.endOf(0, 6));
    }

    private static void wrapsAround() {
        CHECK.sentence("is v one more (modulo 64)");
        SpaceLinks x = Check.running(STAR);
        for (int v = 1; v <= 63; v++) {
            x.time(0);
            x.tick(1);
        }
        x.tick(3);
        CHECK.due("TIME of the ROUTER", 63, x.router(0, 1));
        CHECK.due("TIME of END 2", 63, x.endOf(2, 5));
        CHECK.due("0 is next", 0, x.time(0));
        CHECK.due("0 is to be sent", 0, x.socket(32, 15));
        x.tick(1);
        CHECK.due("TIME 0 is sent", 260, x.socket(32, 9));
        x.tick(2);
        CHECK.due("TIME of the ROUTER", 0, x.router(0, 1));
        CHECK.due("a step", 64, x.router(0, 2));
        CHECK.due("no jump", 0, x.router(0, 3));
        CHECK.due("passed on", 0, x.endOf(2, 5));
        CHECK.due("a step there", 64, x.endOf(2, 6));
        CHECK.due("then 1", 1, x.time(0));
    }

    private static void sameTime() {
        CHECK.sentence("Is v its TIME: nothing.");
        SpaceLinks x = Check.running("cable e0 e1;");
        x.time(0);
        x.time(1);
        x.tick(2);
        CHECK.due("STEPS", 0, x.endOf(0, 6) + x.endOf(1, 6));
        CHECK.due("JUMPS", 0, x.endOf(0, 7) + x.endOf(1, 7));
        CHECK.due("TIME", 1, x.endOf(0, 5));
        // A ROUTER does not pass it on either.
        SpaceLinks y = Check.running(STAR);
        y.time(0);
        y.tick(5);
        int times = y.look(9);
        y.time(1);
        y.time(2);
        y.tick(3);
        CHECK.due("2 by both: one step", 2, y.router(0, 2));
        CHECK.due("no jump", 0, y.router(0, 3));
        // END 1 and 2, then PORTS 1 and 3 from 2, whose END has it already.
        CHECK.due("TIMES", 4, y.look(9) - times);
    }

    private static void jumps() {
        CHECK.sentence("Else that is its TIME, JUMPS counts.");
        for (int first = 2; first <= 63; first += 61) {
            SpaceLinks x = Check.running(STAR);
            for (int k = 0; k < first; k++) {
                x.time(0);
            }
            x.tick(2);
            CHECK.due("TIME " + first, first, x.router(0, 1));
            CHECK.due("a jump", 1, x.router(0, 3));
            CHECK.due("no step", 0, x.router(0, 2));
            x.tick(3);
            CHECK.due("not passed on", 0, x.endOf(1, 5));
            CHECK.due("to none", 1, x.look(9));
        }
        // One less than its TIME is a jump, too.
        SpaceLinks y = Check.running("cable e0 e1;");
        y.time(0);
        y.time(0);
        y.time(1);
        y.tick(2);
        CHECK.due("2 at 1: a step", 1, y.endOf(1, 6));
        CHECK.due("1 at 2: a jump back", 1, y.endOf(0, 7));
        CHECK.due("TIME", 1, y.endOf(0, 5));
    }

    private static void otherPortsInRun() {
        CHECK.sentence("it is to be sent by all other PORTS of it that are in RUN");
        int[] states = {0, 1, 1, 2, 2, 2, 2, 3, 4, 5};
        for (int t = 0; t <= 9; t++) {
            SpaceLinks x = Check.running(STAR + "cable 1.1 e3;");
            x.unplug(2);
            // TIME comes to the ROUTER in the second TICK behind time(), with PORT 2 in this STATE ahead of it.
            int ticks = t - 1;
            if (t == 1) {
                x.tick(1);
                x.time(0);
                x.tick(1);
                x.plug(2, 33);
            } else if (t == 0) {
                x.time(0);
                x.tick(1);
            } else {
                x.plug(2, 33);
                if (ticks > 1) {
                    x.tick(ticks - 1);
                }
                x.time(0);
                x.tick(1);
            }
            CHECK.due("STATE of PORT 2", states[t], x.socket(2, 0));
            x.tick(1);
            CHECK.due("ROUTER has it", 1, x.router(0, 1));
            CHECK.due("PORT 3 sends it", 261, x.socket(3, 9));
            CHECK.due("not PORT 1", 258, x.socket(1, 9));
            CHECK.due("PORT 2 with STATE " + states[t], states[t] == 5, x.socket(2, 9) == 261);
            CHECK.due("to be sent by PORT 2", -1, x.socket(2, 15));
            CHECK.due("none of ROUTER 1", 258, x.socket(9, 9));
        }
    }

    private static void oneAtMost() {
        CHECK.sentence("(one at most is to be sent by a SOCKET, the latest)");
        SpaceLinks x = Check.running("cable e0 e1;");
        x.time(0);
        CHECK.due("to be sent", 1, x.socket(32, 15));
        x.time(0);
        CHECK.due("the latest", 2, x.socket(32, 15));
        x.tick(1);
        CHECK.due("is sent", 262, x.socket(32, 9));
        CHECK.due("none is to be sent", -1, x.socket(32, 15));
        x.tick(1);
        CHECK.due("and no other one", 258, x.socket(32, 9));
        CHECK.due("TIMES", 1, x.look(9));

        // PORTS 1 and 2 hear a step each in one TICK: PORT 3 is to send both, and sends the latest.
        SpaceLinks y = Check.running(STAR);
        y.time(0);
        y.time(1);
        y.time(1);
        y.tick(2);
        CHECK.due("STEPS of the ROUTER", 2, y.router(0, 2));
        CHECK.due("by PORT 1", 262, y.socket(1, 9));
        CHECK.due("by PORT 2", 261, y.socket(2, 9));
        CHECK.due("by PORT 3, the latest", 262, y.socket(3, 9));
        CHECK.due("none is to be sent by PORT 3", -1, y.socket(3, 15));
        y.tick(1);
        CHECK.due("and no other one by PORT 3", 258, y.socket(3, 9));
    }
}
