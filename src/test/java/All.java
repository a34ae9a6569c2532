import java.util.List;

/** Asks an object all that it tells without a change. */
final class All {
    static void ask(SpaceLinks x, List<Integer> answers) {
        for (int what = 0; what < 20; what++) {
            answers.add(x.look(what));
        }
        for (int s = 0; s < 40; s++) {
            askSocket(x, s, answers);
        }
        for (int r = 0; r < 4; r++) {
            for (int what = 0; what < 12; what++) {
                answers.add(x.router(r, what));
            }
            for (int a = 32; a < 96; a++) {
                answers.add(x.tableOf(r, a));
            }
        }
        for (int e = 0; e < 8; e++) {
            askEnd(x, e, answers);
        }
        for (int i = 0; i < 60; i++) {
            for (int what = 0; what < 3; what++) {
                answers.add(x.log(i, what));
            }
        }
    }

    private static void askSocket(SpaceLinks x, int s, List<Integer> answers) {
        for (int what = 0; what < 17; what++) {
            answers.add(x.socket(s, what));
        }
        for (int what = 0; what < 4; what++) {
            answers.add(x.input(s, what));
        }
        for (int i = 0; i < 26; i++) {
            answers.add(x.buffer(s, i));
        }
        answers.add(x.sound(s));
    }

    private static void askEnd(SpaceLinks x, int e, List<Integer> answers) {
        for (int what = 0; what < 9; what++) {
            answers.add(x.endOf(e, what));
        }
        for (int i = 0; i < 6; i++) {
            for (int what = 0; what < 3; what++) {
                answers.add(x.packet(e, i, what));
            }
            for (int k = 0; k < 40; k++) {
                answers.add(x.byteOf(e, i, k));
            }
        }
    }
}
