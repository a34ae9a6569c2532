import java.util.Random;

/** Calls by chance, with numbers that may be right or wrong. */
final class Calls {
    private static final int[] EDGES = {
        Integer.MIN_VALUE, -100, -2, -1, 0, 1, 2, 5, 6, 7, 8, 16, 20, 21, 24, 31, 32, 39, 40, 41, 60, 95, 96, 100,
        200, 254, 256, 400, 1000, Integer.MAX_VALUE,
    };

    /** A few CABLES and TABLES, so that something goes on. */
    static void lay(SpaceLinks x, Random random) {
        for (int e = 0; e < 8; e++) {
            x.plug(32 + e, random.nextInt(32));
        }
        for (int k = 0; k < 8; k++) {
            x.plug(random.nextInt(32), random.nextInt(32));
            x.table(random.nextInt(4), 40 + k % 2, 2 * random.nextInt(128), random.nextBoolean());
        }
        x.watch(5 + random.nextInt(20));
        x.odds(random.nextInt(3) == 0 ? random.nextInt(20) : 0);
        x.tick(10);
    }

    private static int any(Random random) {
        return random.nextInt(3) == 0 ? EDGES[random.nextInt(EDGES.length)] : random.nextInt(42) - 1;
    }

    private static int bit(boolean is) {
        return is ? 1 : 0;
    }

    static int one(SpaceLinks x, Random random) {
        int a = any(random);
        int b = any(random);
        int c = any(random);
        boolean is = random.nextBoolean();
        switch (random.nextInt(44)) {
            case 0: return bit(x.plug(a, b));
            case 1: return random.nextInt(4) == 0 ? x.unplug(a) : 0;
            case 2: return bit(x.broken(a, is && random.nextInt(3) == 0));
            case 3: return bit(x.turn(a, is || random.nextInt(3) == 0));
            case 4: return bit(x.watch(a));
            case 5: return random.nextInt(5) == 0 ? bit(x.odds(a)) : bit(x.odds(0));
            case 6: return x.state(a);
            case 7: return bit(x.table(a, b, c, is));
            case 8: return bit(x.hold(a, is));
            case 9: return x.tick(a);
            case 10: return x.feed(a, b, c, random.nextInt(), random.nextInt());
            case 11: return bit(x.end(a));
            case 12: return x.send(a);
            case 13: return x.text();
            case 14: return x.fault(a);
            case 15: return x.time(a);
            case 16: return x.socket(a, b);
            case 17: return x.buffer(a, b);
            case 18: return x.input(a, b);
            case 19: return x.router(a, b);
            case 20: return x.tableOf(a, b);
            case 21: return x.endOf(a, b);
            case 22: return x.packet(a, b, c);
            case 23: return x.byteOf(a, b, c);
            case 24: return x.way(a, b, c);
            case 25: return x.spread(a, b);
            case 26: return x.loops(a, b);
            case 27: return x.log(a, b);
            case 28: return random.nextInt(4) == 0 ? x.lasts(a, b) : 0;
            case 29: return x.sound(a);
            case 30: return bit(x.image(is));
            case 31: return x.look(a);
            case 32: return Check.text(x, "cable e" + random.nextInt(9) + " " + random.nextInt(4) + "." + random.nextInt(9) + ";");
            case 33: return x.time(random.nextInt(8));
            case 34:
            case 35:
            case 36: return x.tick(1 + random.nextInt(5));
            default: return Check.send(x, random.nextInt(8), packet(random));
        }
    }

    private static int[] packet(Random random) {
        int[] bytes = new int[2 + random.nextInt(random.nextInt(5) == 0 ? 60 : 8)];
        for (int k = 0; k < bytes.length; k++) {
            bytes[k] = random.nextInt(k < 3 ? 8 : 256);
        }
        if (random.nextInt(4) == 0) {
            bytes[0] = 40 + random.nextInt(2);
        }
        return bytes;
    }
}
