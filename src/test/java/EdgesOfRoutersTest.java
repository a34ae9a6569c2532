/** Section 2, part (c), sentence by sentence: TURN, HEADS, who is MEANT, who WAITS, whom WATCH cuts. */
public final class EdgesOfRoutersTest {
    private static final Check CHECK = new Check();
    private static final String STAR = "cable 0.1 e0;cable 0.2 e1;cable 0.3 e2;cable 0.4 e3;";
    private static final String FULL = STAR + "cable 0.5 e4;cable 0.6 e5;cable 0.7 e6;";
    private static final String ROW = "cable 0.1 e0;cable 0.3 1.1;cable 1.2 e1;";

    public static void main(String[] args) {
        routersByNumber();
        cutByPlace();
        turnAtFirst();
        turnGoesRound();
        turnOfThisTick();
        spillsToItsMark();
        spillsAll();
        emptyPackets();
        noByteNoHead();
        pathHeads();
        logicalHeads();
        headGoesIfTold();
        taken();
        lost();
        leastPort();
        inRunAlone();
        notItsOwn();
        notWithAnother();
        notIfItOwes();
        waits();
        stuckOneBehindTheOther();
        stuckAsItIsRouted();
        moreThanWatch();
        cutAsItIsRouted();
        owesIfAByteWasSent();
        CHECK.finish();
    }

    private static void routersByNumber() {
        CHECK.sentence("(c) ROUTERS by number: their PORTS as INPUTS");
        SpaceLinks x = Check.running("cable 3.1 e0;cable 3.2 e1;cable 0.1 e2;cable 0.2 e3;cable 1.7 e4;cable 1.6 e5;");
        Check.send(x, 0, 2, 9);
        Check.send(x, 2, 2, 9);
        Check.send(x, 3, 99, 9);
        Check.send(x, 5, 7, 9);
        x.tick(2);
        int[] whats = {4, 4, 6, 4};
        int[] sockets = {25, 14, 2, 1};
        for (int i = 0; i < 4; i++) {
            CHECK.due("what of line " + i, whats[i], x.log(i, 1));
            CHECK.due("SOCKET of line " + i, sockets[i], x.log(i, 2));
        }
        x.tick(3);
        // ENDS by number, behind all ROUTERS.
        int[] ends = {36, 35, 33};
        for (int i = 0; i < 3; i++) {
            CHECK.due("RECEIVED, line " + i, 7, x.log(i, 1));
            CHECK.due("END of line " + i, ends[i], x.log(i, 2));
        }
    }

    /** One that WAITS is CUT in (c), ahead of what ENDS take; one that is ROUTED in (d), behind it. */
    private static void cutByPlace() {
        CHECK.sentence("STUCK of an INPUT: TICKS in which it WAITS, or is ROUTED and (in (d)) sends nothing");
        SpaceLinks x = Check.running(FULL);
        x.watch(5);
        Check.send(x, 0, 2, 9);
        Check.send(x, 4, 5, 9);
        x.tick(2);
        Check.send(x, 2, 4, 9);
        x.tick(5);
        CHECK.due("INPUT 5 WAITED for its own PORT: CUT", 5, x.log(1, 1));
        CHECK.due("the INPUT", 5, x.log(1, 2));
        CHECK.due("RECEIVED behind it", 7, x.log(0, 1));
        CHECK.due("by END 3", 35, x.log(0, 2));

        // END 1 HOLDS: PORT 2 sends from 13 to 36, and is STUCK from 37 on; CUT at 42.
        SpaceLinks y = Check.running(FULL);
        y.watch(5);
        y.hold(1, true);
        Check.send(y, 0, Check.bytes(60, 2));
        y.tick(27);
        Check.send(y, 2, 4, 9);
        y.tick(5);
        CHECK.due("TICK", 42, y.look(0));
        CHECK.due("INPUT 1 was ROUTED: CUT", 5, y.log(0, 1));
        CHECK.due("the INPUT", 1, y.log(0, 2));
        CHECK.due("RECEIVED ahead of it", 7, y.log(1, 1));
        CHECK.due("in the same TICK", 42, y.log(1, 0));
    }

    private static void turnAtFirst() {
        CHECK.sentence("their PORTS as INPUTS, from TURN on, round (TURN 1 at first)");
        SpaceLinks x = Check.running(FULL);
        for (int r = 0; r < 4; r++) {
            CHECK.due("TURN of " + r, 1, x.router(r, 0));
        }
        Check.send(x, 0, 4, 1);
        Check.send(x, 6, 4, 7);
        x.tick(2);
        CHECK.due("INPUT 1 is first", 4, x.input(1, 1));
        CHECK.due("INPUT 7 WAITS", 1, x.input(7, 2));
        CHECK.due("TURN of another ROUTER", 1, x.router(1, 0));
        x.tick(7);
        // INPUT 7 was the latest that was ROUTED: 1 is first again.
        Check.send(x, 0, 4, 1);
        Check.send(x, 6, 4, 7);
        x.tick(2);
        CHECK.due("round: INPUT 1", 4, x.input(1, 1));
        x.tick(8);
        // INPUT 6 was the latest: 7 is first, and 1 behind it.
        Check.send(x, 5, 4, 6);
        x.tick(6);
        Check.send(x, 0, 4, 1);
        Check.send(x, 6, 4, 7);
        x.tick(2);
        CHECK.due("round: INPUT 7", 4, x.input(7, 1));
        CHECK.due("round: INPUT 1 WAITS", 1, x.input(1, 2));
    }

    private static void turnGoesRound() {
        CHECK.sentence("TURN is the PORT behind that INPUT (7: 1;");
        for (int port = 1; port <= 7; port++) {
            SpaceLinks x = Check.running(FULL);
            Check.send(x, port - 1, port == 4 ? 3 : 4, 9);
            x.tick(1);
            CHECK.due("TURN before", 1, x.router(0, 0));
            x.tick(1);
            CHECK.due("TURN behind " + port, port == 7 ? 1 : port + 1, x.router(0, 0));
            x.tick(10);
            CHECK.due("TURN stays", port == 7 ? 1 : port + 1, x.router(0, 0));
        }
    }

    private static void turnOfThisTick() {
        CHECK.sentence("it goes on from the old one in this TICK)");
        SpaceLinks x = Check.running(FULL);
        Check.send(x, 2, 5, 0);
        x.tick(8);
        CHECK.due("TURN", 4, x.router(0, 0));
        // All at once: 4 5 6 7 1 2 3 by TURN. Each wants the PORT behind it, but 3 wants what 2 has.
        int[] wants = {2, 3, 3, 5, 6, 7, 1};
        for (int e = 0; e < 7; e++) {
            Check.send(x, e, wants[e], 9);
        }
        x.tick(2);
        for (int e = 0; e < 7; e++) {
            CHECK.due("INPUT " + (e + 1), e == 2 ? -1 : wants[e], x.input(e + 1, 1));
        }
        CHECK.due("TURN behind the latest, 2", 3, x.router(0, 0));
        CHECK.due("ROUTED", 7, x.router(0, 4));
        int[] order = {2, 1, 7, 6, 5, 4};
        for (int i = 0; i < order.length; i++) {
            CHECK.due("line " + i, order[i], x.log(i, 2));
        }
    }

    private static void spillsToItsMark() {
        CHECK.sentence("SPILLING: BUFFER loses what is ahead to the first MARK (with it: then it is FREE), or all.");
        SpaceLinks x = Check.running(STAR);
        x.watch(5);
        Check.send(x, 0, 5, 1, 2);
        Check.send(x, 0, 6, 3);
        x.tick(7);
        CHECK.due("CUT at 17", 1, x.router(0, 7));
        CHECK.due("BUFFER at 17", 6, x.socket(1, 7));
        x.tick(1);
        CHECK.due("the next one is ahead, to its MARK", 3, x.socket(1, 7));
        CHECK.due("its HEAD", 6, x.buffer(1, 0));
        CHECK.due("its MARK", 256, x.buffer(1, 2));
        CHECK.due("FREE", 0, x.input(1, 0));
        CHECK.due("it WAITS", 1, x.input(1, 2));
    }

    private static void spillsAll() {
        CHECK.sentence("SPILLING: BUFFER loses what is ahead to the first MARK (with it: then it is FREE), or all.");
        SpaceLinks x = Check.running(STAR);
        Check.send(x, 0, Check.bytes(30, 9));
        for (int t = 12; t <= 41; t++) {
            x.tick(t == 12 ? 2 : 1);
            CHECK.due("SPILLING at " + t, 2, x.input(1, 0));
            CHECK.due("BUFFER at " + t, 0, x.socket(1, 7));
        }
        x.tick(1);
        CHECK.due("FREE with its MARK", 0, x.input(1, 0));
        CHECK.due("LOST once", 1, x.router(0, 6));
        CHECK.due("no empty packet", 0, x.router(0, 8));
        x.tick(5);
        CHECK.due("nothing more", 0, x.input(1, 0));
    }

    private static void emptyPackets() {
        CHECK.sentence("FREE (also just now, again and again): are there MARKS ahead, they go (an empty packet each)");
        SpaceLinks x = Check.running(ROW);
        x.watch(5);
        Check.send(x, 0, 3);
        x.tick(4);
        CHECK.due("one", 1, x.router(1, 8));
        // PORT 5 is not there: it WAITS, then all behind it goes in one TICK.
        Check.send(x, 0, 3, 5, 9);
        Check.send(x, 0, 3);
        Check.send(x, 0, 3);
        Check.send(x, 0, 3, 9, 9);
        Check.send(x, 0, 3);
        Check.send(x, 0, 3, 2, 8);
        for (int t = 0; t < 40 && x.router(1, 7) == 0; t++) {
            x.tick(1);
        }
        CHECK.due("CUT", 1, x.router(1, 7));
        CHECK.due("one yet", 1, x.router(1, 8));
        x.tick(1);
        CHECK.due("two more", 3, x.router(1, 8));
        x.tick(30);
        CHECK.due("and one behind the LOST one", 4, x.router(1, 8));
        CHECK.due("LOST", 1, x.router(1, 6));
        CHECK.due("the last one came", 8, x.byteOf(1, 0, 0));
        CHECK.due("ROUTER 0 has none", 0, x.router(0, 8));
        CHECK.due("ROUTED by ROUTER 1", 1, x.router(1, 4));

        // END 0 breaks off behind the HEAD: all that comes to ROUTER 1 is an ERROR MARK.
        SpaceLinks alone = Check.running(ROW);
        Check.send(alone, 0, 3, 2, 8);
        alone.tick(2);
        alone.turn(32, false);
        alone.tick(1);
        CHECK.due("an ERROR MARK alone", 257, alone.socket(3, 9));
        alone.tick(1);
        CHECK.due("is an empty packet, too", 1, alone.router(1, 8));
        CHECK.due("BUFFERS", 0, alone.look(15));

        SpaceLinks y = Check.running(ROW);
        y.watch(200);
        Check.send(y, 0, 3, 5);
        for (int k = 0; k < 8; k++) {
            Check.send(y, 0, 3);
        }
        y.tick(60);
        CHECK.due("all WAIT", 10, y.socket(9, 7));
        y.plug(13, 39);
        y.tick(10);
        CHECK.due("its MARK goes", 256, y.socket(13, 9));
        CHECK.due("eight MARKS are left", 8, y.socket(9, 7));
        y.tick(1);
        CHECK.due("eight at once", 8, y.router(1, 8));
        CHECK.due("none is left", 0, y.socket(9, 7));
        CHECK.due("none is ROUTED", 1, y.router(1, 4));
    }

    private static void noByteNoHead() {
        CHECK.sentence("is there a byte ahead: the HEAD:");
        SpaceLinks x = Check.running(STAR);
        x.tick(30);
        CHECK.due("nothing is ahead: FREE", 0, x.input(1, 0));
        CHECK.due("not STUCK", 0, x.input(1, 2));
        for (int what = 4; what <= 8; what++) {
            CHECK.due("router(0, " + what + ")", 0, x.router(0, what));
        }
    }

    private static void pathHeads() {
        CHECK.sentence("1 .. 7: that PORT is MEANT, the HEAD goes as it is ROUTED");
        for (int head = 1; head <= 7; head++) {
            SpaceLinks x = Check.running(FULL);
            int from = head == 1 ? 2 : 1;
            Check.send(x, from - 1, head, 77);
            x.tick(2);
            CHECK.due("ROUTED by " + head, head, x.input(from, 1));
            CHECK.due("the HEAD is gone", 0, x.socket(from, 7));
            x.tick(5);
            CHECK.due("one byte came", 1, x.packet(head - 1, 0, 0));
            CHECK.due("the byte", 77, x.byteOf(head - 1, 0, 0));
        }
        SpaceLinks x = Check.running(STAR);
        Check.send(x, 0, 7, 77);
        x.tick(5);
        CHECK.due("it WAITS: the HEAD does not go", 7, x.buffer(1, 0));
    }

    private static void logicalHeads() {
        CHECK.sentence("32 .. 95: PORTS of the TABLE of the ROUTER for it are MEANT (none: as a wrong one)");
        int[] heads = {32, 33, 94, 95};
        for (int head : heads) {
            SpaceLinks x = Check.running(STAR);
            x.table(0, head, 8, false);
            Check.send(x, 0, head, 77);
            x.tick(2);
            CHECK.due("ROUTED by " + head, 3, x.input(1, 1));
            x.table(0, head, 0, false);
            x.tick(8);
            CHECK.due("once ROUTED it goes on, " + head, 1, x.endOf(2, 2));
            Check.send(x, 0, head, 77);
            x.tick(8);
            CHECK.due("none: LOST " + head, 1, x.router(0, 6));
            x.table(1, head, 8, false);
            Check.send(x, 0, head, 77);
            x.tick(8);
            CHECK.due("of another ROUTER: LOST " + head, 2, x.router(0, 6));
        }
    }

    private static void headGoesIfTold() {
        CHECK.sentence("the HEAD goes as it is ROUTED, if that is told");
        SpaceLinks x = Check.running(STAR);
        x.table(0, 32, 8, true);
        x.table(0, 33, 8, false);
        Check.send(x, 0, 32, 77);
        x.tick(2);
        CHECK.due("told: gone", 0, x.socket(1, 7));
        x.tick(6);
        CHECK.due("told: one byte", 1, x.packet(2, 0, 0));
        Check.send(x, 0, 33, 77);
        x.tick(2);
        CHECK.due("not told: it is sent", 33, x.socket(3, 9));
        x.tick(6);
        CHECK.due("not told: two bytes", 2, x.packet(2, 0, 0));
        CHECK.due("not told: the HEAD", 33, x.byteOf(2, 0, 0));
    }

    private static void taken() {
        CHECK.sentence("0: TAKEN (counts), SPILLING at once (as above; an ORDER: what goes so, the 0 too, comes to its ROUTER)");
        SpaceLinks x = Check.running(STAR);
        Check.send(x, 0, 0, 3);
        x.tick(2);
        CHECK.due("TAKEN at once", 1, x.router(0, 5));
        CHECK.due("SPILLING", 2, x.input(1, 0));
        CHECK.due("the 0 is gone", 0, x.socket(1, 7));
        x.tick(2);
        CHECK.due("FREE with its MARK", 0, x.input(1, 0));
        CHECK.due("TAKEN once", 1, x.router(0, 5));
        CHECK.due("not LOST", 0, x.router(0, 6));
        CHECK.due("WRITTEN", 1, x.router(0, 10));
        CHECK.due("not ROUTED", 0, x.router(0, 4));
        CHECK.due("TURN", 1, x.router(0, 0));
        CHECK.due("of another ROUTER", 0, x.router(1, 5));
    }

    private static void lost() {
        CHECK.sentence("others: LOST (counts), SPILLING at once.");
        int[] heads = {8, 9, 30, 31, 96, 97, 254, 255};
        for (int head : heads) {
            SpaceLinks x = Check.running(STAR);
            Check.send(x, 0, head, 3);
            x.tick(2);
            CHECK.due("LOST " + head, 1, x.router(0, 6));
            CHECK.due("SPILLING " + head, 2, x.input(1, 0));
            CHECK.due("gone " + head, 0, x.socket(1, 7));
            x.tick(2);
            CHECK.due("FREE " + head, 0, x.input(1, 0));
            CHECK.due("LOST once " + head, 1, x.router(0, 6));
            CHECK.due("no ORDER " + head, 0, x.router(0, 5) + x.router(0, 10) + x.router(0, 11));
        }
    }

    private static SpaceLinks group(int ports) {
        SpaceLinks x = Check.running(FULL);
        x.table(0, 40, ports, false);
        return x;
    }

    private static void leastPort() {
        CHECK.sentence("It is ROUTED to the least PORT that is MEANT");
        int[] groups = {254, 252, 240, 192, 128, 2 + 128, 4 + 8};
        int[] least = {1, 2, 4, 6, 7, 1, 2};
        for (int k = 0; k < groups.length; k++) {
            SpaceLinks x = group(groups[k]);
            Check.send(x, 4, 40, 9);
            x.tick(2);
            CHECK.due("of " + groups[k], least[k], x.input(5, 1));
        }
    }

    private static void inRunAlone() {
        CHECK.sentence("that is MEANT, in RUN, not its own");
        SpaceLinks without = group(4 + 128);
        without.unplug(2);
        Check.send(without, 0, 40, 9);
        without.tick(2);
        CHECK.due("without a CABLE", 7, without.input(1, 1));
        int[] states = {1, 1, 2, 2, 2, 2, 3, 4, 5};
        for (int t = 2; t <= 8; t++) {
            SpaceLinks x = group(4 + 128);
            x.unplug(2);
            x.plug(2, 33);
            if (t > 2) {
                x.tick(t - 2);
            }
            Check.send(x, 0, 40, 9);
            x.tick(2);
            CHECK.due("STATE of PORT 2", states[t], x.socket(2, 0));
            CHECK.due("ROUTED with STATE " + states[t], states[t] == 5 ? 2 : 7, x.input(1, 1));
        }
    }

    private static void notItsOwn() {
        CHECK.sentence("in RUN, not its own, to which no INPUT is ROUTED");
        for (int port = 1; port <= 7; port++) {
            SpaceLinks x = group(254);
            Check.send(x, port - 1, 40, 9);
            x.tick(2);
            CHECK.due("of all, by " + port, port == 1 ? 2 : 1, x.input(port, 1));
            SpaceLinks y = Check.running(FULL);
            Check.send(y, port - 1, port, 9);
            y.tick(2);
            CHECK.due("by its own, " + port + ": it WAITS", 0, y.input(port, 0));
            CHECK.due("STUCK", 1, y.input(port, 2));
        }
    }

    private static void notWithAnother() {
        CHECK.sentence("to which no INPUT is ROUTED and which owes no ERROR MARK");
        SpaceLinks x = group(4 + 8 + 16);
        for (int e = 3; e < 7; e++) {
            Check.send(x, e, 40, 1, 2, 3);
        }
        x.tick(2);
        CHECK.due("INPUT 4", 2, x.input(4, 1));
        CHECK.due("INPUT 5", 3, x.input(5, 1));
        CHECK.due("INPUT 6", 4, x.input(6, 1));
        CHECK.due("INPUT 7 WAITS", 0, x.input(7, 0));
        x.tick(4);
        CHECK.due("the MARK is sent", 256, x.socket(2, 9));
        CHECK.due("INPUT 7 WAITS yet", 0, x.input(7, 0));
        x.tick(1);
        CHECK.due("INPUT 7", 2, x.input(7, 1));
    }

    /** PORT 2, whose END HOLDS, owes an ERROR MARK as INPUT 1 was CUT, and can't send it. */
    private static SpaceLinks owing() {
        SpaceLinks x = group(4 + 8);
        x.watch(5);
        x.hold(1, true);
        Check.send(x, 0, Check.bytes(60, 2));
        x.tick(32);
        CHECK.due("CUT", 1, x.router(0, 7));
        CHECK.due("owes", 1, x.socket(2, 14));
        return x;
    }

    private static void notIfItOwes() {
        CHECK.sentence("and which owes no ERROR MARK");
        SpaceLinks x = owing();
        Check.send(x, 6, 40, 9);
        x.tick(2);
        CHECK.due("the other one", 3, x.input(7, 1));
        Check.send(x, 5, 2, 9);
        x.tick(2);
        CHECK.due("none but that one: it WAITS", 1, x.input(6, 2));
        x.hold(1, false);
        x.tick(5);
        CHECK.due("CUT", 2, x.router(0, 7));
        Check.send(x, 4, 2, 8);
        x.tick(6);
        CHECK.due("the ERROR MARK is sent", 0, x.socket(2, 14));
        CHECK.due("and then the next", 1, x.router(0, 4) - 2);
    }

    private static void waits() {
        CHECK.sentence("Else it WAITS.");
        SpaceLinks x = Check.running(STAR);
        Check.send(x, 0, 5, 9);
        for (int t = 1; t <= 10; t++) {
            x.tick(t == 1 ? 2 : 1);
            CHECK.due("FREE", 0, x.input(1, 0));
            CHECK.due("to none", -1, x.input(1, 1));
            CHECK.due("STUCK", t, x.input(1, 2));
            CHECK.due("the HEAD stays", 5, x.buffer(1, 0));
        }
        CHECK.due("TURN stays", 1, x.router(0, 0));
        CHECK.due("not ROUTED", 0, x.router(0, 4));
    }

    private static void stuckOneBehindTheOther() {
        CHECK.sentence("STUCK of an INPUT: TICKS in which it WAITS, or is ROUTED and (in (d)) sends nothing, one behind the other");
        SpaceLinks x = Check.running(STAR);
        Check.send(x, 0, 5, 9);
        Check.send(x, 0, 3, 9);
        x.tick(11);
        CHECK.due("WAITS for ten", 10, x.input(1, 2));
        x.plug(5, 37);
        x.tick(7);
        CHECK.due("WAITS for seven more", 17, x.input(1, 2));
        x.tick(2);
        CHECK.due("ROUTED, but CREDIT is sent first, twice", 19, x.input(1, 2));
        CHECK.due("ROUTED", 5, x.input(1, 1));
        x.tick(1);
        CHECK.due("its byte is sent", 9, x.socket(5, 9));
        CHECK.due("not STUCK", 0, x.input(1, 2));
        x.tick(1);
        CHECK.due("FREE", 0, x.input(1, 2));
        x.tick(10);
        CHECK.due("nothing is ahead", 0, x.input(1, 2));
    }

    private static void stuckAsItIsRouted() {
        CHECK.sentence("or is ROUTED and (in (d)) sends nothing");
        // CREDIT goes ahead of what an INPUT would send, and so does TIME: each is a TICK in which it sends nothing.
        SpaceLinks x = Check.running(STAR);
        Check.send(x, 0, Check.bytes(60, 2));
        x.tick(2);
        CHECK.due("ROUTED, the HEAD is gone, nothing to send", 1, x.input(1, 2));
        x.tick(1);
        CHECK.due("a byte is sent", 0, x.input(1, 2));
        x.time(3);
        x.tick(2);
        CHECK.due("TIME is sent", 261, x.socket(2, 9));
        CHECK.due("STUCK", 1, x.input(1, 2));
        x.tick(1);
        CHECK.due("a byte is sent", 0, x.input(1, 2));
        Check.send(x, 1, Check.bytes(30, 3));
        for (int t = 0; t < 20 && x.socket(2, 9) != 259; t++) {
            CHECK.due("a byte is sent", 0, x.input(1, 2));
            x.tick(1);
        }
        CHECK.due("CREDIT is sent", 259, x.socket(2, 9));
        CHECK.due("STUCK", 1, x.input(1, 2));
        x.tick(1);
        CHECK.due("a byte is sent", 0, x.input(1, 2));
    }

    private static void moreThanWatch() {
        CHECK.sentence("as it is more than WATCH: CUT (counts): it is SPILLING from then on (STUCK 0)");
        int[] watches = {5, 6, 20, 199, 200};
        for (int watch : watches) {
            SpaceLinks x = Check.running(STAR);
            if (watch != 20) {
                x.watch(watch);
            }
            Check.send(x, 0, 5, 9);
            x.tick(1);
            for (int t = 0; t < watch; t++) {
                x.tick(1);
            }
            CHECK.due("STUCK as long as WATCH " + watch, watch, x.input(1, 2));
            CHECK.due("FREE", 0, x.input(1, 0));
            CHECK.due("not CUT", 0, x.router(0, 7));
            x.tick(1);
            CHECK.due("CUT, WATCH " + watch, 1, x.router(0, 7));
            CHECK.due("SPILLING", 2, x.input(1, 0));
            CHECK.due("STUCK", 0, x.input(1, 2));
            CHECK.due("BUFFER", 3, x.socket(1, 7));
            x.tick(1);
            CHECK.due("FREE", 0, x.input(1, 0));
            CHECK.due("gone", 0, x.socket(1, 7));
            CHECK.due("CUT once", 1, x.router(0, 7));
        }
        // WATCH may come to be less than STUCK is.
        SpaceLinks x = Check.running(STAR);
        Check.send(x, 0, 5, 9);
        x.tick(16);
        CHECK.due("STUCK", 15, x.input(1, 2));
        x.watch(5);
        CHECK.due("a call cuts none", 0, x.router(0, 7));
        x.tick(1);
        CHECK.due("the next TICK does", 1, x.router(0, 7));
    }

    private static void cutAsItIsRouted() {
        CHECK.sentence("as it is more than WATCH: CUT (counts): it is SPILLING from then on (STUCK 0)");
        SpaceLinks x = Check.running(STAR);
        x.watch(5);
        x.hold(1, true);
        Check.send(x, 0, Check.bytes(60, 2));
        // The HEAD comes at 12; PORT 2 sends from 13 to 36 what it BOUGHT, and then nothing.
        x.tick(26);
        CHECK.due("24 are sent", 24, x.socket(2, 12));
        CHECK.due("STUCK", 0, x.input(1, 2));
        x.tick(5);
        CHECK.due("STUCK", 5, x.input(1, 2));
        CHECK.due("ROUTED", 1, x.input(1, 0));
        x.tick(1);
        CHECK.due("CUT", 1, x.router(0, 7));
        CHECK.due("SPILLING", 2, x.input(1, 0));
        CHECK.due("to none", -1, x.input(1, 1));
        CHECK.due("nobody is ROUTED to it", -1, x.input(2, 3));
        CHECK.due("STUCK", 0, x.input(1, 2));
        CHECK.due("log: CUT", 5, x.log(0, 1));
        CHECK.due("log: the INPUT", 1, x.log(0, 2));

        // Two in one TICK: PORT 1, to which INPUT 3 is ROUTED, has its place in (d) ahead of PORT 4.
        SpaceLinks y = Check.running(STAR);
        y.watch(5);
        y.hold(0, true);
        y.hold(3, true);
        Check.send(y, 1, Check.bytes(60, 4));
        Check.send(y, 2, Check.bytes(60, 1));
        y.tick(32);
        CHECK.due("CUT, both", 2, y.router(0, 7));
        for (int i = 0; i < 2; i++) {
            CHECK.due("log: TICK", 42, y.log(i, 0));
            CHECK.due("log: CUT", 5, y.log(i, 1));
            CHECK.due("log: the INPUT", i == 0 ? 2 : 3, y.log(i, 2));
        }
    }

    private static void owesIfAByteWasSent() {
        CHECK.sentence("was it ROUTED, and a byte was sent by that PORT behind its latest MARK, that owes an ERROR MARK (nobody is ROUTED to it then).");
        SpaceLinks x = owing();
        CHECK.due("a byte was sent: it owes", 1, x.socket(2, 14));

        // The MARK of the packet ahead is the last that could be sent: of the next one nothing was.
        SpaceLinks y = Check.running(STAR);
        y.watch(5);
        y.hold(1, true);
        Check.send(y, 0, Check.bytes(24, 2));
        Check.send(y, 0, 2, 7);
        y.tick(26);
        CHECK.due("the MARK is sent", 256, y.socket(2, 9));
        CHECK.due("none is BOUGHT", 0, y.socket(2, 5));
        y.tick(1);
        CHECK.due("ROUTED again", 1, y.input(1, 0));
        CHECK.due("STUCK", 1, y.input(1, 2));
        y.tick(5);
        CHECK.due("CUT", 1, y.router(0, 7));
        CHECK.due("no byte was sent: it owes none", 0, y.socket(2, 14));

        SpaceLinks z = Check.running(STAR);
        z.watch(5);
        Check.send(z, 0, 5, 7);
        z.tick(7);
        CHECK.due("it WAITED", 1, z.router(0, 7));
        for (int port = 1; port <= 7; port++) {
            CHECK.due("none owes", 0, z.socket(port, 14));
        }
    }
}
