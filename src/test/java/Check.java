import java.io.IOException;
import java.io.UncheckedIOException;
import java.nio.charset.StandardCharsets;
import java.nio.file.Files;
import java.nio.file.Path;
import java.util.ArrayList;
import java.util.List;

/** What the tests share: counting wrong answers, and short ways to lay and send. */
final class Check {
    /** Numbers that are none of anything: far too small or too large. */
    static final int[] FAR = {Integer.MIN_VALUE, -1000, -101, -100, -99, 1001, 4096, 65536, Integer.MAX_VALUE};

    private int wrong;
    private String document;
    private String sentence = "";

    void due(String call, long want, long got) {
        if (got != want) {
            wrong++;
            System.out.println(call + " answered " + got + ", due is " + want);
            if (!sentence.isEmpty()) {
                System.out.println("    by \"" + sentence + "\"");
            }
        }
    }

    /** The sentence of the document by which the next answers are due: it must stand there, word by word. */
    void sentence(String quote) {
        sentence = quote;
        if (document == null) {
            document = document();
        }
        due("the document has these words", true, document.contains(quote));
    }

    /** The document, with one blank between two words. */
    static String document() {
        try {
            return Files.readString(Path.of("../shared/DOC.md"), StandardCharsets.UTF_8).replaceAll("\\s+", " ");
        } catch (IOException e) {
            throw new UncheckedIOException(e);
        }
    }

    /** What is called changes nothing of all that can be asked. */
    void changesNothing(String name, SpaceLinks x, Runnable calls) {
        List<Integer> before = new ArrayList<>();
        List<Integer> behind = new ArrayList<>();
        All.ask(x, before);
        before.add(x.fault(0));
        before.add(x.fault(1));
        calls.run();
        All.ask(x, behind);
        behind.add(x.fault(0));
        behind.add(x.fault(1));
        due(name + ": all stays as it was", true, before.equals(behind));
    }

    void due(String call, boolean want, boolean got) {
        due(call, want ? 1 : 0, got ? 1 : 0);
    }

    /** Ends the test: with exit code 1 if an answer was wrong. */
    void finish() {
        if (wrong != 0) {
            System.out.println(wrong + " answers are not as due");
            System.exit(1);
        }
    }

    /** THE TAPE has these bytes, and no others. */
    static void tape(SpaceLinks x, int... bytes) {
        x.end(0);
        for (int start = 0; start < bytes.length; start += 20) {
            x.feed(four(bytes, start), four(bytes, start + 4), four(bytes, start + 8),
                    four(bytes, start + 12), four(bytes, start + 16));
        }
        x.end(bytes.length);
    }

    private static int four(int[] bytes, int start) {
        int word = 0;
        for (int k = start; k < start + 4; k++) {
            word = word << 8 | (k < bytes.length ? bytes[k] & 255 : 0);
        }
        return word;
    }

    static int text(SpaceLinks x, String text) {
        byte[] letters = text.getBytes(StandardCharsets.ISO_8859_1);
        int[] bytes = new int[letters.length];
        for (int k = 0; k < letters.length; k++) {
            bytes[k] = letters[k] & 255;
        }
        tape(x, bytes);
        return x.text();
    }

    static int send(SpaceLinks x, int end, int... bytes) {
        tape(x, bytes);
        return x.send(end);
    }

    /** So many bytes, the first ones as told, the others 0. */
    static int[] bytes(int many, int... first) {
        int[] bytes = new int[many];
        System.arraycopy(first, 0, bytes, 0, first.length);
        return bytes;
    }

    /** A new object with these CABLES and TABLES, in RUN. */
    static SpaceLinks running(String text) {
        SpaceLinks x = new SpaceLinks();
        text(x, text);
        x.tick(10);
        return x;
    }
}
