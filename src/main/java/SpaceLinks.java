import java.util.Arrays;

/**
 * Links of a spacecraft: routers and ends joined by cables, and what goes on on them, tick by tick.
 *
 * <p>The words in capitals are those of the document. Inside, a {@link World} holds all that THE IMAGE
 * holds; the face tests what it is given and asks the World, THE TAPE or the paths.
 */
public final class SpaceLinks {
    public static final int NONE = -1;

    private static final int NOT_THERE = NONE - 99;

    private static final int ROUTERS = 4;
    private static final int PORTS = 7;
    private static final int SPAN = 8;
    private static final int FIRST_END = 32;
    private static final int ENDS = 8;
    private static final int SOCKETS = 40;
    private static final int FIRST_ADDRESS = 32;
    private static final int ADDRESSES = 64;
    private static final int HEAD_GOES = 256;
    private static final int TIMES = 64;
    private static final int MOST_TICKS = 99999;
    private static final int MOST_THOUGHT = 400;

    private static final int END_MARK = 256;
    private static final int ERROR_MARK = 257;
    private static final int NULL = 258;
    private static final int CREDIT = 259;
    private static final int TIME = 260;

    private static final int OFF = 0;
    private static final int RESET = 1;
    private static final int WAIT = 2;
    private static final int STARTED = 3;
    private static final int CONNECTING = 4;
    private static final int RUN = 5;

    private static final int FREE = 0;
    private static final int ROUTED = 1;
    private static final int SPILLING = 2;

    private static final int LOG_RUN = 0;
    private static final int LOG_FELL = 1;
    private static final int LOG_SILENT = 2;
    private static final int LOG_SPOILED = 3;
    private static final int LOG_ROUTED = 4;
    private static final int LOG_CUT = 5;
    private static final int LOG_LOST = 6;
    private static final int LOG_WHOLE = 7;
    private static final int LOG_NOT_WHOLE = 8;
    private static final int LOG_WRITTEN = 9;
    private static final int LOG_REFUSED = 10;

    private final World now;
    private final Tape tape;
    private World image;
    private World thought;

    public SpaceLinks() {
        now = new World();
        tape = new Tape();
    }

    public boolean plug(int a, int b) {
        if (!isSocket(a) || !isSocket(b) || a == b) {
            return false;
        }
        if (now.sides[a].other != NONE || now.sides[b].other != NONE) {
            return false;
        }
        now.lay(a, b);
        return true;
    }

    public int unplug(int socket) {
        if (!isSocket(socket) || now.sides[socket].other == NONE) {
            return NONE;
        }
        return now.part(socket);
    }

    public boolean broken(int socket, boolean is) {
        if (!isSocket(socket)) {
            return false;
        }
        Side side = now.sides[socket];
        if (!isSocket(side.other) || side.whole != is) {
            return false;
        }
        side.whole = !is;
        now.sides[side.other].whole = !is;
        return true;
    }

    public boolean turn(int socket, boolean on) {
        if (!isSocket(socket) || now.sides[socket].on == on) {
            return false;
        }
        now.sides[socket].on = on;
        now.settle(socket);
        return true;
    }

    public boolean watch(int ticks) {
        if (ticks < 5 || ticks > 200) {
            return false;
        }
        now.watch = ticks;
        return true;
    }

    public boolean odds(int v) {
        if (v < 0 || v > 1000) {
            return false;
        }
        now.odds = v;
        return true;
    }

    public int state(int v) {
        int was = now.draws;
        now.draws = v;
        return was;
    }

    public boolean table(int router, int address, int ports, boolean goes) {
        return isRouter(router) && now.routers[router].write(address, ports, goes);
    }

    public boolean hold(int end, boolean is) {
        if (!isEnd(end) || now.ends[end].holds == is) {
            return false;
        }
        now.ends[end].holds = is;
        return true;
    }

    public int tick(int n) {
        if (n < 1 || n > 100 || now.tick > MOST_TICKS - n) {
            return NONE;
        }
        for (int k = 0; k < n; k++) {
            now.step();
        }
        return now.tick;
    }

    public int feed(int a, int b, int c, int d, int e) {
        if (tape.length + 20 > Tape.ROOM) {
            return NONE;
        }
        tape.add(a);
        tape.add(b);
        tape.add(c);
        tape.add(d);
        tape.add(e);
        return tape.length;
    }

    public boolean end(int n) {
        if (n < 0 || n > tape.length) {
            return false;
        }
        tape.length = n;
        return true;
    }

    public int send(int end) {
        int length = tape.length;
        tape.length = 0;
        if (!isEnd(end) || length == 0) {
            return NONE;
        }
        Row queue = now.ends[end].queue;
        if (queue.count + length + 1 > End.QUEUE_ROOM) {
            return NONE;
        }
        for (int k = 0; k < length && k < Tape.ROOM; k++) {
            queue.add(tape.cells[k]);
        }
        queue.add(END_MARK);
        return queue.count;
    }

    public int text() {
        int lines = tape.read(now);
        tape.length = 0;
        if (lines != NONE) {
            layAllTold();
        }
        return lines;
    }

    public int fault(int what) {
        switch (what) {
            case 0: return tape.fault;
            case 1: return tape.place;
            default: return NONE;
        }
    }

    public int time(int end) {
        if (!isEnd(end) || now.sides[FIRST_END + end].state != RUN) {
            return NONE;
        }
        Clock clock = now.ends[end].clock;
        clock.time = clock.next();
        now.sides[FIRST_END + end].timeToSend = clock.time;
        return clock.time;
    }

    public int socket(int socket, int what) {
        return isSocket(socket) ? now.sides[socket].tell(what) : NOT_THERE;
    }

    public int buffer(int socket, int i) {
        return isSocket(socket) ? now.sides[socket].buffer.at(i) : NONE;
    }

    public int input(int socket, int what) {
        if (socket >= FIRST_END || !isSocket(socket)) {
            return NOT_THERE;
        }
        return now.inputs[socket].tell(what);
    }

    public int router(int router, int what) {
        return isRouter(router) ? now.routers[router].tell(what) : NONE;
    }

    public int tableOf(int router, int address) {
        if (!isRouter(router) || !isAddress(address)) {
            return NONE;
        }
        return now.routers[router].tableFor(address);
    }

    public int endOf(int end, int what) {
        return isEnd(end) ? now.ends[end].tell(what) : NONE;
    }

    public int packet(int end, int i, int what) {
        Packet kept = keptPacket(end, i);
        return kept == null ? NONE : kept.tell(what);
    }

    public int byteOf(int end, int i, int k) {
        Packet kept = keptPacket(end, i);
        return kept == null ? NONE : kept.at(k);
    }

    public int way(int from, int to, int i) {
        if (!isEnd(from) || !isEnd(to) || from == to) {
            return NONE;
        }
        return Paths.wayPort(now, from, to, i);
    }

    public int spread(int router, int address) {
        if (!isRouter(router) || !isAddress(address)) {
            return NONE;
        }
        return Paths.endsOf(now, router, address);
    }

    public int loops(int router, int address) {
        if (!isRouter(router) || !isAddress(address)) {
            return NONE;
        }
        return bit(Paths.comesAgain(now, router, address));
    }

    public int log(int i, int what) {
        return now.log.tell(i, what);
    }

    public int lasts(int end, int n) {
        if (!isEnd(end) || n < 1 || n > 20) {
            return NONE;
        }
        if (thought == null) {
            thought = new World();
        }
        thought.copyFrom(now);
        End there = thought.ends[end];
        int due = there.received + n;
        for (int ticks = 1; ticks <= MOST_THOUGHT; ticks++) {
            thought.step();
            if (there.received >= due) {
                return ticks;
            }
        }
        return NONE;
    }

    public int sound(int socket) {
        if (!isSocket(socket)) {
            return NONE;
        }
        Side one = now.sides[socket];
        if (!isSocket(one.other)) {
            return NONE;
        }
        Side two = now.sides[one.other];
        if (one.state != RUN || two.state != RUN) {
            return NONE;
        }
        return bit(one.isPaidFor(two) && two.isPaidFor(one));
    }

    public boolean image(boolean taken) {
        if (taken) {
            if (image == null) {
                image = new World();
            }
            image.copyFrom(now);
            return true;
        }
        if (image == null) {
            return false;
        }
        now.copyFrom(image);
        return true;
    }

    public int look(int what) {
        switch (what) {
            case 0: return now.tick;
            case 4: return now.watch;
            case 5: return now.received(false);
            case 6: return now.received(true);
            case 14: return tape.length;
            case 17: return now.log.came;
            case 18: return now.odds;
            case 19: return now.draws;
            default: break;
        }
        if (what >= 7 && what <= 11) {
            return now.sentKinds[what - 7];
        }
        return now.total(what);
    }

    private void layAllTold() {
        for (int s = 0; s < SOCKETS; s++) {
            if (tape.partners[s] > s) {
                now.lay(s, tape.partners[s]);
            }
        }
        for (int k = 0; k < tape.tables.length; k++) {
            if (tape.tables[k] != 0) {
                now.routers[k / ADDRESSES].tables[k % ADDRESSES] = tape.tables[k];
            }
        }
    }

    private Packet keptPacket(int end, int i) {
        return isEnd(end) ? now.ends[end].keptAt(i) : null;
    }

    private static boolean isSocket(int s) {
        return s >= 0 && s < SOCKETS && (s >= FIRST_END || s % SPAN != 0);
    }

    private static boolean isRouter(int r) {
        return r >= 0 && r < ROUTERS;
    }

    private static boolean isEnd(int e) {
        return e >= 0 && e < ENDS;
    }

    private static boolean isAddress(int a) {
        return a >= FIRST_ADDRESS && a < FIRST_ADDRESS + ADDRESSES;
    }

    private static boolean isPortSet(int ports) {
        return ports >= 0 && ports < 256 && (ports & 1) == 0;
    }

    private static int bit(boolean is) {
        return is ? 1 : 0;
    }

    /** Bytes and MARKS, the first that came ahead: a BUFFER or a QUEUE. */
    private static final class Row {
        private final int[] cells;
        private int start;
        private int count;

        Row(int room) {
            cells = new int[Math.max(room, 1)];
        }

        void copyFrom(Row row) {
            start = 0;
            count = Math.min(row.count, cells.length);
            for (int i = 0; i < count; i++) {
                cells[i] = row.at(i);
            }
        }

        int at(int i) {
            if (i < 0 || i >= count) {
                return NONE;
            }
            int k = start + i;
            return cells[k < cells.length ? k : k - cells.length];
        }

        void add(int c) {
            if (count >= cells.length) {
                return;
            }
            int k = start + count;
            cells[k < cells.length ? k : k - cells.length] = c;
            count++;
        }

        int take() {
            if (count == 0) {
                return NONE;
            }
            int c = cells[start];
            start = start + 1 < cells.length ? start + 1 : 0;
            count--;
            return c;
        }

        /** It loses what is ahead to its first MARK, with that. */
        void dropPacket() {
            int dropped = 0;
            for (int most = count; most > 0 && dropped < END_MARK; most--) {
                dropped = take();
            }
        }
    }

    /** A SOCKET: one side of a link. */
    private static final class Side {
        // 24 are sold at most, and one ERROR MARK may come beyond them.
        private static final int BUFFER_ROOM = 25;
        private static final int MOST_SOLD = 24;
        private static final int LOT = 8;

        private final Row buffer = new Row(BUFFER_ROOM);
        private int state = OFF;
        private int age;
        private int quiet;
        private int other = NONE;
        private boolean whole;
        private boolean on = true;
        private int bought;
        private int sold;
        private int sent = NONE;
        private int timeToSend = NONE;
        private boolean owes;
        // STARTED: it HAS HEARD; CONNECTING: it HAS CREDIT.
        private boolean answered;
        // A byte came, or was sent, behind the latest MARK.
        private boolean cameOpen;
        private boolean sentOpen;
        private int fell;
        private int silent;
        private int spoiled;
        private int dataSent;
        private int dataHeard;

        void copyFrom(Side side) {
            buffer.copyFrom(side.buffer);
            state = side.state;
            age = side.age;
            quiet = side.quiet;
            other = side.other;
            whole = side.whole;
            on = side.on;
            bought = side.bought;
            sold = side.sold;
            sent = side.sent;
            timeToSend = side.timeToSend;
            owes = side.owes;
            answered = side.answered;
            cameOpen = side.cameOpen;
            sentOpen = side.sentOpen;
            fell = side.fell;
            silent = side.silent;
            spoiled = side.spoiled;
            dataSent = side.dataSent;
            dataHeard = side.dataHeard;
        }

        void enter(int newState) {
            state = newState;
            age = 0;
            quiet = 0;
            answered = false;
        }

        /** CREDIT is sold, if it may be. */
        boolean sells() {
            if (buffer.count + sold > MOST_SOLD - LOT) {
                return false;
            }
            sold += LOT;
            return true;
        }

        /** What this side may send, and what is still on the CABLE, is what the other one has sold. */
        boolean isPaidFor(Side far) {
            int credit = far.sent == CREDIT ? LOT : 0;
            int data = sent >= 0 && sent <= ERROR_MARK ? 1 : 0;
            return bought + credit + data == far.sold;
        }

        int tell(int what) {
            switch (what) {
                case 0: return state;
                case 1: return age;
                case 2: return other;
                case 3: return bit(other != NONE && whole);
                case 4: return bit(on);
                case 5: return bought;
                case 6: return sold;
                case 7: return buffer.count;
                case 8: return quiet;
                case 9: return sent;
                case 10: return fell;
                case 11: return silent;
                case 12: return dataSent;
                case 13: return dataHeard;
                case 14: return bit(owes);
                case 15: return timeToSend;
                case 16: return spoiled;
                default: return NOT_THERE;
            }
        }
    }

    /** A PORT as INPUT of its ROUTER, and which INPUT is ROUTED to it. */
    private static final class Input {
        private static final int ORDER_KEPT = 6;

        private final int[] order = new int[ORDER_KEPT];
        private int ordered;
        private boolean ordering;
        private int mode = FREE;
        private int to = NONE;
        private int from = NONE;
        private int stuck;

        void copyFrom(Input input) {
            System.arraycopy(input.order, 0, order, 0, ORDER_KEPT);
            ordered = input.ordered;
            ordering = input.ordering;
            mode = input.mode;
            to = input.to;
            from = input.from;
            stuck = input.stuck;
        }

        void beginSpill(boolean isOrder) {
            mode = SPILLING;
            to = NONE;
            ordering = isOrder;
            ordered = 0;
        }

        void beFree() {
            mode = FREE;
            to = NONE;
        }

        void keep(int c) {
            if (ordering && ordered < ORDER_KEPT) {
                order[ordered] = c;
                ordered++;
            }
        }

        int tell(int what) {
            switch (what) {
                case 0: return mode;
                case 1: return to;
                case 2: return stuck;
                case 3: return from;
                default: return NOT_THERE;
            }
        }
    }

    /** TIME of a ROUTER or an END. */
    private static final class Clock {
        private int time;
        private int steps;
        private int jumps;

        void copyFrom(Clock clock) {
            time = clock.time;
            steps = clock.steps;
            jumps = clock.jumps;
        }

        int next() {
            return (time + 1) % TIMES;
        }

        /** TIME v comes: whether it is a step. */
        boolean hears(int v) {
            if (v == time) {
                return false;
            }
            boolean isStep = v == next();
            time = v;
            if (isStep) {
                steps++;
            } else {
                jumps++;
            }
            return isStep;
        }
    }

    private static final class Router {
        // PORTS of each address, and HEAD_GOES; 0: no TABLE.
        private final int[] tables = new int[ADDRESSES];
        private final Clock clock = new Clock();
        private int turn = 1;
        private int routed;
        private int taken;
        private int lost;
        private int cut;
        private int empty;
        private int written;
        private int refused;

        void copyFrom(Router router) {
            System.arraycopy(router.tables, 0, tables, 0, ADDRESSES);
            clock.copyFrom(router.clock);
            turn = router.turn;
            routed = router.routed;
            taken = router.taken;
            lost = router.lost;
            cut = router.cut;
            empty = router.empty;
            written = router.written;
            refused = router.refused;
        }

        boolean write(int address, int ports, boolean goes) {
            if (!isAddress(address) || !isPortSet(ports)) {
                return false;
            }
            tables[address - FIRST_ADDRESS] = ports != 0 && goes ? ports + HEAD_GOES : ports;
            return true;
        }

        int tableFor(int address) {
            return isAddress(address) ? tables[address - FIRST_ADDRESS] : 0;
        }

        /** PORTS that a HEAD means, and HEAD_GOES; 0: a wrong one. */
        int meantBy(int head) {
            return head >= 1 && head <= PORTS ? (1 << head) + HEAD_GOES : tableFor(head);
        }

        int tablesThere() {
            int there = 0;
            for (int k = 0; k < ADDRESSES; k++) {
                there += bit(tables[k] != 0);
            }
            return there;
        }

        int tell(int what) {
            switch (what) {
                case 0: return turn;
                case 1: return clock.time;
                case 2: return clock.steps;
                case 3: return clock.jumps;
                case 4: return routed;
                case 5: return taken;
                case 6: return lost;
                case 7: return cut;
                case 8: return empty;
                case 9: return tablesThere();
                case 10: return written;
                case 11: return refused;
                default: return NONE;
            }
        }
    }

    /** A packet that comes in, or one that is RECEIVED. */
    private static final class Packet {
        private static final int KEPT = 40;

        private final int[] bytes = new int[KEPT];
        private int length;
        private boolean whole;
        private int tick;

        void copyFrom(Packet packet) {
            length = packet.length;
            whole = packet.whole;
            tick = packet.tick;
            System.arraycopy(packet.bytes, 0, bytes, 0, KEPT);
        }

        void add(int c) {
            if (length < KEPT) {
                bytes[length] = c;
            }
            length++;
        }

        int at(int k) {
            return k >= 0 && k < length && k < KEPT ? bytes[k] : NONE;
        }

        int tell(int what) {
            switch (what) {
                case 0: return length;
                case 1: return bit(whole);
                case 2: return tick;
                default: return NONE;
            }
        }
    }

    private static final class End {
        private static final int QUEUE_ROOM = 120;
        private static final int KEPT = 6;

        private final Row queue = new Row(QUEUE_ROOM);
        private final Clock clock = new Clock();
        private final Packet[] kept = new Packet[KEPT];
        private Packet coming = new Packet();
        private boolean holds;
        private int received;
        private int receivedWhole;
        private int spilled;

        End() {
            for (int i = 0; i < KEPT; i++) {
                kept[i] = new Packet();
            }
        }

        void copyFrom(End end) {
            queue.copyFrom(end.queue);
            clock.copyFrom(end.clock);
            for (int i = 0; i < KEPT; i++) {
                kept[i].copyFrom(end.kept[i]);
            }
            coming.copyFrom(end.coming);
            holds = end.holds;
            received = end.received;
            receivedWhole = end.receivedWhole;
            spilled = end.spilled;
        }

        /** The packet that comes in ends; the oldest one that is kept lends its room to the next. */
        void receive(boolean whole, int tick) {
            int place = received % KEPT;
            Packet oldest = kept[place];
            coming.whole = whole;
            coming.tick = tick;
            kept[place] = coming;
            coming = oldest;
            coming.length = 0;
            received++;
            receivedWhole += bit(whole);
        }

        Packet keptAt(int i) {
            if (i < 0 || i >= KEPT || i >= received) {
                return null;
            }
            return kept[(received - 1 - i) % KEPT];
        }

        int tell(int what) {
            switch (what) {
                case 0: return queue.count;
                case 1: return received;
                case 2: return receivedWhole;
                case 3: return coming.length;
                case 4: return bit(holds);
                case 5: return clock.time;
                case 6: return clock.steps;
                case 7: return clock.jumps;
                case 8: return spilled;
                default: return NONE;
            }
        }
    }

    private static final class Log {
        private static final int KEPT = 60;

        private final int[] ticks = new int[KEPT];
        private final int[] whats = new int[KEPT];
        private final int[] sockets = new int[KEPT];
        private int came;

        void copyFrom(Log log) {
            System.arraycopy(log.ticks, 0, ticks, 0, KEPT);
            System.arraycopy(log.whats, 0, whats, 0, KEPT);
            System.arraycopy(log.sockets, 0, sockets, 0, KEPT);
            came = log.came;
        }

        void add(int tick, int what, int socket) {
            int place = came % KEPT;
            ticks[place] = tick;
            whats[place] = what;
            sockets[place] = socket;
            came++;
        }

        int tell(int i, int what) {
            if (i < 0 || i >= KEPT || i >= came) {
                return NONE;
            }
            int place = (came - 1 - i) % KEPT;
            switch (what) {
                case 0: return ticks[place];
                case 1: return whats[place];
                case 2: return sockets[place];
                default: return NONE;
            }
        }
    }

    /** All that THE IMAGE holds, and how a TICK changes it. */
    private static final class World {
        private static final int KINDS = 5;
        // A round takes something from a BUFFER, or makes the next one take it, or is the last.
        private static final int ROUNDS = 2 * Side.BUFFER_ROOM + 2;

        private final Side[] sides = new Side[SOCKETS];
        private final Input[] inputs = new Input[FIRST_END];
        private final Router[] routers = new Router[ROUTERS];
        private final End[] ends = new End[ENDS];
        private final Log log = new Log();
        // NULLS, CREDITS, TIMES, bytes and MARKS that were sent.
        private final int[] sentKinds = new int[KINDS];
        private int tick;
        private int watch = 20;
        private int odds;
        private int draws;

        World() {
            for (int s = 0; s < SOCKETS; s++) {
                sides[s] = new Side();
            }
            for (int s = 0; s < FIRST_END; s++) {
                inputs[s] = new Input();
            }
            for (int r = 0; r < ROUTERS; r++) {
                routers[r] = new Router();
            }
            for (int e = 0; e < ENDS; e++) {
                ends[e] = new End();
            }
        }

        void copyFrom(World world) {
            for (int s = 0; s < SOCKETS; s++) {
                sides[s].copyFrom(world.sides[s]);
            }
            for (int s = 0; s < FIRST_END; s++) {
                inputs[s].copyFrom(world.inputs[s]);
            }
            for (int r = 0; r < ROUTERS; r++) {
                routers[r].copyFrom(world.routers[r]);
            }
            for (int e = 0; e < ENDS; e++) {
                ends[e].copyFrom(world.ends[e]);
            }
            log.copyFrom(world.log);
            System.arraycopy(world.sentKinds, 0, sentKinds, 0, KINDS);
            tick = world.tick;
            watch = world.watch;
            odds = world.odds;
            draws = world.draws;
        }

        void lay(int a, int b) {
            sides[a].other = b;
            sides[b].other = a;
            sides[a].whole = true;
            sides[b].whole = true;
            settle(a);
            settle(b);
        }

        int part(int s) {
            int far = sides[s].other;
            if (!isSocket(far)) {
                return NONE;
            }
            sides[s].other = NONE;
            sides[far].other = NONE;
            settle(s);
            settle(far);
            return far;
        }

        /** What a CABLE or a hand changes holds at once. */
        void settle(int s) {
            Side side = sides[s];
            boolean lives = side.other != NONE && side.on;
            if (lives && side.state == OFF) {
                side.enter(RESET);
            } else if (!lives && side.state != OFF) {
                leave(s, OFF);
                side.sent = NONE;
            }
        }

        /** It goes to RESET or OFF; as it leaves STARTED or more, it FALLS. */
        private void leave(int s, int newState) {
            Side side = sides[s];
            boolean falls = side.state >= STARTED;
            side.enter(newState);
            if (!falls) {
                return;
            }
            side.fell++;
            log.add(tick, LOG_FELL, s);
            side.bought = 0;
            side.sold = 0;
            side.timeToSend = NONE;
            side.owes = false;
            if (side.cameOpen) {
                side.buffer.add(ERROR_MARK);
                side.cameOpen = false;
            }
            if (s >= FIRST_END) {
                if (side.sentOpen) {
                    ends[s - FIRST_END].spilled++;
                    ends[s - FIRST_END].queue.dropPacket();
                }
            } else if (inputs[s].from != NONE) {
                inputs[baseOf(s) + inputs[s].from].beginSpill(false);
                inputs[s].from = NONE;
            }
            side.sentOpen = false;
        }

        void step() {
            tick++;
            for (int s = 0; s < SOCKETS; s++) {
                hear(s);
            }
            for (int s = 0; s < SOCKETS; s++) {
                grow(s);
            }
            for (int r = 0; r < ROUTERS; r++) {
                int first = routers[r].turn;
                for (int k = 0; k < PORTS; k++) {
                    int port = first + k <= PORTS ? first + k : first + k - PORTS;
                    serve(routers[r], r * SPAN + port);
                }
            }
            for (int e = 0; e < ENDS; e++) {
                takeIn(e);
            }
            for (int s = 0; s < SOCKETS; s++) {
                transmit(s);
            }
            unstickSpilling();
        }

        /** An INPUT that is SPILLING as a TICK ends is not STUCK: as it was CUT, or its PORT FELL, or before. */
        private void unstickSpilling() {
            for (int s = 0; s < FIRST_END; s++) {
                if (inputs[s].mode == SPILLING) {
                    inputs[s].stuck = 0;
                }
            }
        }

        private void hear(int s) {
            Side side = sides[s];
            if (side.state < STARTED) {
                return;
            }
            int c = isSocket(side.other) && side.whole ? sides[side.other].sent : NONE;
            if (c == NONE) {
                side.quiet++;
                return;
            }
            side.quiet = 0;
            if (side.state == STARTED) {
                side.answered = true;
            } else if (odds > 0 && draw() < odds) {
                side.spoiled++;
                log.add(tick, LOG_SPOILED, s);
                leave(s, RESET);
            } else if (c == CREDIT) {
                hearCredit(s);
            } else if (c >= TIME) {
                hearTime(s, c - TIME);
            } else if (c <= ERROR_MARK) {
                hearData(s, c);
            }
        }

        private int draw() {
            draws = 1664525 * draws + 1013904223;
            return (draws >>> 8) % 1000;
        }

        private void hearCredit(int s) {
            Side side = sides[s];
            side.bought += Side.LOT;
            side.answered = true;
            if (side.bought > Side.MOST_SOLD) {
                leave(s, RESET);
            }
        }

        private void hearTime(int s, int v) {
            if (sides[s].state != RUN) {
                return;
            }
            if (s >= FIRST_END) {
                ends[s - FIRST_END].clock.hears(v);
                return;
            }
            if (!routers[s / SPAN].clock.hears(v)) {
                return;
            }
            for (int port = 1; port <= PORTS; port++) {
                int next = baseOf(s) + port;
                if (next != s && sides[next].state == RUN) {
                    sides[next].timeToSend = v;
                }
            }
        }

        private void hearData(int s, int c) {
            Side side = sides[s];
            side.dataHeard++;
            if (side.state != RUN || side.sold == 0) {
                leave(s, RESET);
                return;
            }
            side.sold--;
            side.buffer.add(c);
            side.cameOpen = c < END_MARK;
        }

        /** Part (b) of a TICK. */
        private void grow(int s) {
            Side side = sides[s];
            if (side.state >= CONNECTING && side.quiet > 0) {
                side.silent++;
                log.add(tick, LOG_SILENT, s);
                leave(s, RESET);
                return;
            }
            side.age++;
            switch (side.state) {
                case RESET:
                    if (side.age == 2) {
                        side.enter(WAIT);
                    }
                    break;
                case WAIT:
                    if (side.age == 4) {
                        side.enter(STARTED);
                    }
                    break;
                case STARTED:
                case CONNECTING:
                    growOn(s);
                    break;
                default:
                    break;
            }
        }

        /** STARTED and CONNECTING wait for an answer, but not for ever. */
        private void growOn(int s) {
            Side side = sides[s];
            if (side.answered) {
                side.enter(side.state + 1);
                if (side.state == RUN) {
                    log.add(tick, LOG_RUN, s);
                }
            } else if (side.age == 6) {
                leave(s, RESET);
            }
        }

        /** Part (c) of a TICK for one INPUT. */
        private void serve(Router router, int s) {
            Input input = inputs[s];
            if (input.mode == ROUTED) {
                return;
            }
            boolean waits = false;
            for (int round = 0; round < ROUNDS; round++) {
                if (input.mode == SPILLING) {
                    int mark = spill(s);
                    if (mark != NONE && input.ordering) {
                        answer(router, s, mark == END_MARK && obeys(router, s));
                    }
                    if (mark != NONE) {
                        input.beFree();
                    }
                }
                if (waits || input.mode != FREE || sides[s].buffer.count == 0) {
                    break;
                }
                waits = begin(router, s);
            }
            if (waits) {
                stick(s);
            } else if (input.mode == FREE) {
                input.stuck = 0;
            }
        }

        /** What is ahead of an INPUT that is FREE: whether it WAITS. */
        private boolean begin(Router router, int s) {
            Input input = inputs[s];
            int head = sides[s].buffer.at(0);
            if (head >= END_MARK) {
                sides[s].buffer.take();
                router.empty++;
                return false;
            }
            if (head == 0) {
                router.taken++;
                input.beginSpill(true);
                return false;
            }
            int meant = router.meantBy(head);
            if (meant == 0) {
                router.lost++;
                log.add(tick, LOG_LOST, s);
                input.beginSpill(false);
                return false;
            }
            int port = openPort(s, meant);
            if (port == NONE) {
                return true;
            }
            if ((meant & HEAD_GOES) != 0) {
                sides[s].buffer.take();
            }
            input.mode = ROUTED;
            input.to = port;
            inputs[baseOf(s) + port].from = portOf(s);
            router.routed++;
            router.turn = portOf(s) == PORTS ? 1 : portOf(s) + 1;
            log.add(tick, LOG_ROUTED, s);
            return false;
        }

        private int openPort(int s, int meant) {
            for (int port = 1; port <= PORTS; port++) {
                int out = baseOf(s) + port;
                if ((meant >> port & 1) == 1 && out != s && sides[out].state == RUN
                        && inputs[out].from == NONE && !sides[out].owes) {
                    return port;
                }
            }
            return NONE;
        }

        /** BUFFER of an INPUT loses what is ahead to the first MARK: that, or NONE if there was none. */
        private int spill(int s) {
            Row buffer = sides[s].buffer;
            int c = buffer.take();
            for (int most = buffer.count; most >= 0 && c >= 0 && c < END_MARK; most--) {
                inputs[s].keep(c);
                c = buffer.take();
            }
            return c;
        }

        private void answer(Router router, int s, boolean isDone) {
            if (isDone) {
                router.written++;
                log.add(tick, LOG_WRITTEN, s);
            } else {
                router.refused++;
                log.add(tick, LOG_REFUSED, s);
            }
        }

        /** Whether the ORDER that came by an INPUT could be done, and was. */
        private boolean obeys(Router router, int s) {
            int[] order = inputs[s].order;
            int length = inputs[s].ordered;
            if (length == 5 && order[1] == 1) {
                return order[4] <= 1 && router.write(order[2], order[3], order[4] == 1);
            }
            if (length == 4 && order[1] == 2) {
                int port = order[2];
                if (port < 1 || port > PORTS || order[3] > 1) {
                    return false;
                }
                sides[baseOf(s) + port].on = order[3] == 1;
                settle(baseOf(s) + port);
                return true;
            }
            if (length == 2 && order[1] == 3) {
                router.clock.time = 0;
                return true;
            }
            return false;
        }

        /** One TICK more in which an INPUT got nothing on; WATCH cuts it. */
        private void stick(int s) {
            Input input = inputs[s];
            input.stuck++;
            if (input.stuck <= watch) {
                return;
            }
            routers[s / SPAN].cut++;
            log.add(tick, LOG_CUT, s);
            if (input.to != NONE) {
                int out = baseOf(s) + input.to;
                inputs[out].from = NONE;
                sides[out].owes = sides[out].sentOpen;
            }
            input.beginSpill(false);
        }

        private void takeIn(int e) {
            if (ends[e].holds) {
                return;
            }
            int c = sides[FIRST_END + e].buffer.take();
            if (c >= END_MARK) {
                ends[e].receive(c == END_MARK, tick);
                log.add(tick, c == END_MARK ? LOG_WHOLE : LOG_NOT_WHOLE, FIRST_END + e);
            } else if (c != NONE) {
                ends[e].coming.add(c);
            }
        }

        /** Part (d) of a TICK. */
        private void transmit(int s) {
            Side side = sides[s];
            switch (side.state) {
                case STARTED:
                    side.sent = NULL;
                    break;
                case CONNECTING:
                    side.sent = side.sells() ? CREDIT : NULL;
                    break;
                case RUN:
                    transmitInRun(s);
                    break;
                default:
                    side.sent = NONE;
                    return;
            }
            sentKinds[kindOf(side.sent)]++;
        }

        private void transmitInRun(int s) {
            Side side = sides[s];
            int source = s < FIRST_END ? inputs[s].from : NONE;
            side.sent = choose(s);
            boolean isData = side.sent <= ERROR_MARK;
            if (isData) {
                side.bought--;
                side.dataSent++;
                side.sentOpen = side.sent < END_MARK;
            }
            if (source == NONE) {
                return;
            }
            if (isData) {
                inputs[baseOf(s) + source].stuck = 0;
            } else {
                stick(baseOf(s) + source);
            }
        }

        private int choose(int s) {
            Side side = sides[s];
            if (side.timeToSend != NONE) {
                int v = side.timeToSend;
                side.timeToSend = NONE;
                return TIME + v;
            }
            if (side.sells()) {
                return CREDIT;
            }
            if (side.bought == 0) {
                return NULL;
            }
            if (side.owes) {
                side.owes = false;
                return ERROR_MARK;
            }
            int c = s < FIRST_END ? passOn(s) : ends[s - FIRST_END].queue.take();
            return c == NONE ? NULL : c;
        }

        /** The next byte or MARK for a PORT, from the INPUT that is ROUTED to it. */
        private int passOn(int s) {
            int source = inputs[s].from;
            if (source == NONE) {
                return NONE;
            }
            int c = sides[baseOf(s) + source].buffer.take();
            if (c >= END_MARK) {
                inputs[baseOf(s) + source].beFree();
                inputs[s].from = NONE;
            }
            return c;
        }

        int received(boolean wholeOnly) {
            int sum = 0;
            for (int e = 0; e < ENDS; e++) {
                sum += wholeOnly ? ends[e].receivedWhole : ends[e].received;
            }
            return sum;
        }

        /** What look() tells as a sum over all SOCKETS. */
        int total(int what) {
            int sum = 0;
            for (int s = 0; s < SOCKETS; s++) {
                Side side = sides[s];
                switch (what) {
                    case 1: sum += bit(side.other > s); break;
                    case 2: sum += bit(side.other > s && !side.whole); break;
                    case 3: sum += bit(side.state == RUN); break;
                    case 12: sum += side.fell; break;
                    case 13: sum += side.silent; break;
                    case 15: sum += side.buffer.count; break;
                    case 16: sum += side.spoiled; break;
                    default: return NONE;
                }
            }
            return sum;
        }

        private static int baseOf(int s) {
            return s - s % SPAN;
        }

        private static int portOf(int s) {
            return s % SPAN;
        }

        /** Where sentKinds counts a CHARACTER. */
        private static int kindOf(int c) {
            if (c >= TIME) {
                return 2;
            }
            if (c >= NULL) {
                return c - NULL;
            }
            return c < END_MARK ? 3 : 4;
        }
    }

    /** WAY, SPREAD and LOOPS: where CABLES and TABLES lead, in any STATE. */
    private static final class Paths {
        private static final int NO_WAY = 99;

        static int wayPort(World world, int from, int to, int i) {
            int at = world.sides[FIRST_END + from].other;
            if (at == FIRST_END + to) {
                return i == NONE ? 0 : NONE;
            }
            if (at < 0 || at >= FIRST_END) {
                return NONE;
            }
            int[] far = cablesTo(world, to);
            int router = at / SPAN;
            int ports = far[router];
            if (ports == NO_WAY || i >= ports || i < NONE) {
                return NONE;
            }
            if (i == NONE) {
                return ports;
            }
            int port = NONE;
            for (int k = 0; k <= i && k < ROUTERS && router != NONE; k++) {
                port = portToward(world, far, router, to);
                router = port == NONE ? NONE : routerAt(world, router * SPAN + port);
            }
            return port;
        }

        /** How many CABLES lead from each ROUTER to an END, at least. */
        private static int[] cablesTo(World world, int to) {
            int[] far = new int[ROUTERS];
            Arrays.fill(far, NO_WAY);
            int last = world.sides[FIRST_END + to].other;
            if (last >= 0 && last < FIRST_END) {
                far[last / SPAN] = 1;
            }
            for (int cables = 1; cables < ROUTERS; cables++) {
                for (int s = 0; s < FIRST_END; s++) {
                    int next = routerAt(world, s);
                    if (next != NONE && far[next] == cables && far[s / SPAN] > cables + 1) {
                        far[s / SPAN] = cables + 1;
                    }
                }
            }
            return far;
        }

        /** The least PORT of a ROUTER that comes one CABLE nearer to an END. */
        private static int portToward(World world, int[] far, int router, int to) {
            for (int port = 1; port <= PORTS; port++) {
                int s = router * SPAN + port;
                int next = routerAt(world, s);
                if (world.sides[s].other == FIRST_END + to
                        || next != NONE && far[next] == far[router] - 1) {
                    return port;
                }
            }
            return NONE;
        }

        /** The ROUTER at the other side of a SOCKET's CABLE. */
        private static int routerAt(World world, int s) {
            int far = world.sides[s].other;
            return far >= 0 && far < FIRST_END ? far / SPAN : NONE;
        }

        static int endsOf(World world, int router, int address) {
            int reached = 1 << router | routersBehind(world, router, address);
            int ends = 0;
            for (int s = 0; s < FIRST_END; s++) {
                int far = world.sides[s].other;
                if ((reached >> s / SPAN & 1) == 1 && far >= FIRST_END && isMeant(world, s, address)) {
                    ends |= 1 << far - FIRST_END;
                }
            }
            return ends;
        }

        static boolean comesAgain(World world, int router, int address) {
            int reached = routersBehind(world, router, address);
            for (int r = 0; r < ROUTERS; r++) {
                if ((reached >> r & 1) == 1 && (routersBehind(world, r, address) >> r & 1) == 1) {
                    return true;
                }
            }
            return false;
        }

        /** The set of ROUTERS to which a HEAD that stays comes from a ROUTER, by one CABLE or more. */
        private static int routersBehind(World world, int router, int address) {
            int behind = 0;
            for (int round = 0; round < ROUTERS; round++) {
                int from = round == 0 ? 1 << router : behind;
                for (int s = 0; s < FIRST_END; s++) {
                    int r = s / SPAN;
                    int next = routerAt(world, s);
                    boolean stays = (world.routers[r].tableFor(address) & HEAD_GOES) == 0;
                    if ((from >> r & 1) == 1 && stays && next != NONE && isMeant(world, s, address)) {
                        behind |= 1 << next;
                    }
                }
            }
            return behind;
        }

        private static boolean isMeant(World world, int s, int address) {
            return (world.routers[s / SPAN].tableFor(address) >> s % SPAN & 1) == 1;
        }
    }

    /** THE TAPE, and how it is read as a TEXT. */
    private static final class Tape {
        private static final int ROOM = 400;
        private static final int CANT_STAND = 1;
        private static final int CANT_BE = 2;
        private static final int CABLE_TWICE = 3;
        private static final int TABLE_TWICE = 4;
        private static final int BIG = 1000;

        private final int[] cells = new int[ROOM];
        private int length;
        private int fault;
        private int place = NONE;
        private int reading;
        // What was told: the other SOCKET of each, and the TABLE of each ROUTER and address.
        private final int[] partners = new int[SOCKETS];
        private final int[] tables = new int[ROUTERS * ADDRESSES];

        /** Four bytes come, the highest first. */
        void add(int word) {
            for (int shift = 24; shift >= 0 && length < ROOM; shift -= 8) {
                cells[length] = word >>> shift & 255;
                length++;
            }
        }

        int at(int k) {
            return k >= 0 && k < length ? cells[k] : NONE;
        }

        /** How many lines stand there; what they tell is in partners and tables. NONE with a FAULT. */
        int read(World world) {
            fault = 0;
            place = NONE;
            reading = 0;
            Arrays.fill(partners, NONE);
            Arrays.fill(tables, 0);
            int lines = 0;
            skipBlanks();
            while (reading < length && lines < ROOM) {
                if (!readLine(world)) {
                    return NONE;
                }
                lines++;
                skipBlanks();
            }
            return lines;
        }

        private boolean readLine(World world) {
            boolean isRead;
            if (takesWord("cable")) {
                isRead = readCable(world);
            } else if (takesWord("table")) {
                isRead = readTable(world);
            } else {
                isRead = fails(CANT_STAND, reading);
            }
            return isRead && takesSign(';');
        }

        private boolean readCable(World world) {
            int a = readSocket(world, NONE);
            if (a == NONE) {
                return false;
            }
            int b = readSocket(world, a);
            if (b == NONE) {
                return false;
            }
            partners[a] = b;
            partners[b] = a;
            return true;
        }

        /** A SOCKET that has no CABLE yet and is not the one that the line told before. */
        private int readSocket(World world, int before) {
            skipBlanks();
            int start = reading;
            int base = FIRST_END;
            boolean isEnd = takesWord("e");
            if (!isEnd) {
                int router = readNumber(0, ROUTERS - 1);
                if (router == NONE || !takesSign('.')) {
                    return NONE;
                }
                base = router * SPAN;
            }
            int number = isEnd ? readNumber(0, ENDS - 1) : readNumber(1, PORTS);
            if (number == NONE) {
                return NONE;
            }
            int s = base + number;
            if (s == before || world.sides[s].other != NONE || partners[s] != NONE) {
                fails(CABLE_TWICE, start);
                return NONE;
            }
            return s;
        }

        private boolean readTable(World world) {
            int router = readNumber(0, ROUTERS - 1);
            if (router == NONE) {
                return false;
            }
            skipBlanks();
            int start = reading;
            int address = readNumber(FIRST_ADDRESS, FIRST_ADDRESS + ADDRESSES - 1);
            if (address == NONE) {
                return false;
            }
            int told = router * ADDRESSES + address - FIRST_ADDRESS;
            if (world.routers[router].tableFor(address) != 0 || tables[told] != 0) {
                return fails(TABLE_TWICE, start);
            }
            boolean goes = takesWord("go");
            if (!goes && !takesWord("stay")) {
                return fails(CANT_STAND, reading);
            }
            int ports = readPorts();
            if (ports == NONE) {
                return false;
            }
            tables[told] = goes ? ports + HEAD_GOES : ports;
            return true;
        }

        /** One PORT or more, as a set. */
        private int readPorts() {
            int ports = 0;
            for (int k = 0; k <= PORTS; k++) {
                skipBlanks();
                if (k > 0 && !isDigit(at(reading))) {
                    return ports;
                }
                int start = reading;
                int port = readNumber(1, PORTS);
                if (port == NONE) {
                    return NONE;
                }
                if ((ports >> port & 1) == 1) {
                    fails(TABLE_TWICE, start);
                    return NONE;
                }
                ports |= 1 << port;
            }
            return ports;
        }

        private int readNumber(int least, int most) {
            skipBlanks();
            int start = reading;
            if (!isDigit(at(start))) {
                fails(CANT_STAND, start);
                return NONE;
            }
            int number = 0;
            while (reading < length && isDigit(at(reading))) {
                // Many digits may stand there: what is too much stays so.
                number = Math.min(number * 10 + at(reading) - '0', BIG);
                reading++;
            }
            if (number < least || number > most) {
                fails(CANT_BE, start);
                return NONE;
            }
            return number;
        }

        /** Whether the letters that stand there are just this word; then they are read. */
        private boolean takesWord(String word) {
            skipBlanks();
            int letters = 0;
            while (reading + letters < length && isLetter(at(reading + letters))) {
                letters++;
            }
            if (letters != word.length()) {
                return false;
            }
            for (int k = 0; k < letters; k++) {
                if (at(reading + k) != word.charAt(k)) {
                    return false;
                }
            }
            reading += letters;
            return true;
        }

        private boolean takesSign(char sign) {
            skipBlanks();
            if (at(reading) != sign) {
                return fails(CANT_STAND, reading);
            }
            reading++;
            return true;
        }

        private void skipBlanks() {
            while (reading < length && cells[reading] == ' ') {
                reading++;
            }
        }

        private boolean fails(int what, int where) {
            fault = what;
            place = where;
            return false;
        }

        private static boolean isDigit(int c) {
            return c >= '0' && c <= '9';
        }

        private static boolean isLetter(int c) {
            return c >= 'a' && c <= 'z';
        }
    }
}
