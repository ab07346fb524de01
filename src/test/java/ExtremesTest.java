import java.util.Random;

/** Eight tracks that all cross, with the largest differences there can be: nothing overflows. */
public final class ExtremesTest {
    private final TrackCrossings real = new TrackCrossings();
    private final Model model = new Model();
    private final Checks checks;

    private ExtremesTest(Checks checks) {
        this.checks = checks;
        for (int[] e : Scenes.FAN) {
            checks.due("track", real.track(e[0], e[1], e[2], e[3], 0, 1000000),
                model.track(e[0], e[1], e[2], e[3], 0, 1000000));
        }
    }

    public static void main(String[] args) {
        Checks checks = new Checks("ExtremesTest");
        Random random = new Random(5);
        for (int pattern = 0; pattern < 60; pattern++) {
            ExtremesTest test = new ExtremesTest(checks);
            test.fill(random, pattern);
            test.compare(pattern);
        }
        checks.end();
    }

    /** By turns: each track at one end of the range, each reading, and each reading but some. */
    private void fill(Random random, int pattern) {
        for (int t = 0; t < 8; t++) {
            boolean high = random.nextBoolean();
            for (int i = 0; i < 9; i++) {
                boolean up = pattern % 3 == 0 ? high : random.nextBoolean();
                boolean missing = pattern % 3 == 2 && random.nextInt(6) == 0;
                int height = missing ? 200000 : up ? 10000 : -10000;
                checks.due("read", real.read(t, i, height), model.read(t, i, height));
            }
        }
    }

    private void compare(int pattern) {
        for (int what = 0; what < 3; what++) {
            checks.due(pattern + ": net(" + what + ")", real.net(what), model.net(what));
        }
        for (int t = 0; t < 8; t++) {
            checks.due(pattern + ": off(" + t + ", 0)", real.off(t, 0), model.off(t, 0));
            checks.due(pattern + ": off(" + t + ", 1)", real.off(t, 1), model.off(t, 1));
        }
        checks.due(pattern + ": before()", real.before(), model.before());
        checks.due(pattern + ": behind()", real.behind(), model.behind());
        checks.due(pattern + ": box(50, 0, 0, 1)", real.box(50, 0, 0, 1), model.box(50, 0, 0, 1));
    }
}
