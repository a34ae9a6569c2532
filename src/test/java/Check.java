import java.nio.charset.StandardCharsets;

/** What the tests share: counting wrong answers, and short ways to lay and send. */
final class Check {
    private int wrong;

    void due(String call, long want, long got) {
        if (got != want) {
            wrong++;
            System.out.println(call + " answered " + got + ", due is " + want);
        }
    }

    void due(String call, boolean want, boolean got) {
        due(call, want ? 1 : 0, got ? 1 : 0);
    }

    /** Ends the test: with exit code 1 if an answer was wrong. */
    void finish() {
        if (wrong != 0) {
            System.out.println(wrong + " answers are not as due");
            System.exit(1);
        }
    }

    /** THE TAPE has these bytes, and no others. */
    static void tape(SpaceLinks x, int... bytes) {
        x.end(0);
        for (int start = 0; start < bytes.length; start += 20) {
            x.feed(four(bytes, start), four(bytes, start + 4), four(bytes, start + 8),
                    four(bytes, start + 12), four(bytes, start + 16));
        }
        x.end(bytes.length);
    }

    private static int four(int[] bytes, int start) {
        int word = 0;
        for (int k = start; k < start + 4; k++) {
            word = word << 8 | (k < bytes.length ? bytes[k] & 255 : 0);
        }
        return word;
    }

    static int text(SpaceLinks x, String text) {
        byte[] letters = text.getBytes(StandardCharsets.ISO_8859_1);
        int[] bytes = new int[letters.length];
        for (int k = 0; k < letters.length; k++) {
            bytes[k] = letters[k] & 255;
        }
        tape(x, bytes);
        return x.text();
    }

    static int send(SpaceLinks x, int end, int... bytes) {
        tape(x, bytes);
        return x.send(end);
    }

    /** A new object with these CABLES and TABLES, in RUN. */
    static SpaceLinks running(String text) {
        SpaceLinks x = new SpaceLinks();
        text(x, text);
        x.tick(10);
        return x;
    }
}
