import java.util.ArrayList;
import java.util.List;
import java.util.Random;

/** Any calls with any numbers: none throws, the same calls give the same answers, and some things always hold. */
public final class AnyCallsTest {
    private static final Check CHECK = new Check();

    public static void main(String[] args) {
        for (int seed = 1; seed <= 150; seed++) {
            List<Integer> once = run(seed, true);
            List<Integer> twice = run(seed, false);
            CHECK.due("answers of run " + seed, true, once.equals(twice));
        }
        CHECK.finish();
    }

    private static List<Integer> run(int seed, boolean looksOn) {
        Random random = new Random(seed);
        SpaceLinks x = new SpaceLinks();
        List<Integer> answers = new ArrayList<>();
        Calls.lay(x, random);
        for (int call = 0; call < 400; call++) {
            answers.add(Calls.one(x, random));
            if (looksOn && call % 8 == 0) {
                holds(x, seed);
            }
        }
        return answers;
    }

    private static void holds(SpaceLinks x, int seed) {
        int buffers = 0;
        int running = 0;
        for (int s = 1; s < 40; s++) {
            if (s < 32 && s % 8 == 0) {
                continue;
            }
            int sum = x.socket(s, 6) + x.socket(s, 7);
            CHECK.due(seed + ": BUFFER and SOLD of " + s, true, sum <= 25 && x.socket(s, 6) <= 24 && x.socket(s, 5) <= 24);
            CHECK.due(seed + ": SOUND " + s, true, x.sound(s) != 0);
            int other = x.socket(s, 2);
            CHECK.due(seed + ": the other of the other of " + s, true, other == -1 || x.socket(other, 2) == s);
            buffers += x.socket(s, 7);
            running += x.socket(s, 0) == 5 ? 1 : 0;
            holdsOfInput(x, seed, s);
        }
        CHECK.due(seed + ": BUFFERS", buffers, x.look(15));
        CHECK.due(seed + ": RUN", running, x.look(3));
    }

    private static void holdsOfInput(SpaceLinks x, int seed, int s) {
        if (s >= 32) {
            return;
        }
        int to = x.input(s, 1);
        CHECK.due(seed + ": ROUTED " + s, true, (to != -1) == (x.input(s, 0) == 1));
        CHECK.due(seed + ": ROUTED to it " + s, true, to == -1 || x.input(s / 8 * 8 + to, 3) == s % 8);
        CHECK.due(seed + ": ROUTED in RUN " + s, true, to == -1 || x.socket(s / 8 * 8 + to, 0) == 5);
        CHECK.due(seed + ": STUCK " + s, true, x.input(s, 2) >= 0 && x.input(s, 2) <= 201);
    }
}
