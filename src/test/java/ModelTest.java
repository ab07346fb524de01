import java.util.Random;

/** Long runs of calls, drawn from a fixed seed, on the class and on the model side by side. */
public final class ModelTest {
    private static final int RUNS = 120;
    private static final int CALLS = 512;
    private static final int[] EDGES = {Integer.MIN_VALUE, -1000001, -101, -100, -2, -1, 0, 1, 7, 8,
        9, 50, 51, 100, 101, 10000, 10001, 100000, 100001, 200000, 200001, 1000000, 1000001,
        Integer.MAX_VALUE};

    private final Random random;
    private final Checks checks;
    private final TrackCrossings real = new TrackCrossings();
    private final Model model = new Model();
    private final int reach;
    private final int height;
    private final int missing;
    private final int wild;

    private ModelTest(int run, Checks checks) {
        random = new Random(7919L * run + 1);
        this.checks = checks;
        reach = new int[] {2, 4, 10, 40, 100}[random.nextInt(5)];
        height = new int[] {1, 9, 300, 10000}[random.nextInt(4)];
        missing = random.nextInt(3) * 15;
        wild = random.nextInt(2) * 4;
    }

    public static void main(String[] args) {
        Checks checks = new Checks("ModelTest");
        for (int run = 0; run < RUNS; run++) {
            new ModelTest(run, checks).play(run);
        }
        checks.end();
    }

    private boolean chance(int percent) {
        return random.nextInt(100) < percent;
    }

    /** A number of the range; now and then one just beside it, or one far away. */
    private int number(int least, int most) {
        if (chance(wild)) {
            return chance(50) ? EDGES[random.nextInt(EDGES.length)]
                : chance(50) ? least - 1 : most + 1;
        }
        return chance(5) ? least : chance(5) ? most : least + random.nextInt(most - least + 1);
    }

    private int aTrack() {
        return number(0, Math.max(0, real.count(0) - 1));
    }

    private int aTone() {
        return number(0, Math.max(0, real.count(2) - 1));
    }

    private int aPeriod() {
        return chance(50) ? number(1, 1000000) : number(1, chance(50) ? 12 : 20000);
    }

    private int aHeight() {
        return chance(missing) ? 200000 : chance(10) ? (chance(50) ? -height : height)
            : number(-height, height);
    }

    private void play(int run) {
        int calls = 0;
        int first = 2 + random.nextInt(7);
        for (int t = 0; t < first; t++) {
            addTrack(run);
            calls++;
        }
        for (int t = 0; t < first; t++) {
            for (int i = 0; i < 9; i++) {
                readOne(run, t, i);
                calls++;
            }
        }
        for (; calls < CALLS; calls++) {
            step(run);
        }
    }

    private void addTrack(int run) {
        // Mostly from one side of the map to the other, so that many cross.
        int x0 = number(-reach, chance(70) ? -reach / 2 : reach);
        int y0 = number(-reach, reach);
        int x1 = number(chance(70) ? reach / 2 : -reach, reach);
        int y1 = number(-reach, reach);
        int t0 = number(0, 999999);
        int t1 = chance(90) && t0 >= 0 && t0 < 999000 ? t0 + 1 + random.nextInt(1000) : number(1, 1000000);
        checks.due(run + ": track(" + x0 + ", " + y0 + ", " + x1 + ", " + y1 + ", " + t0 + ", " + t1 + ")",
            real.track(x0, y0, x1, y1, t0, t1), model.track(x0, y0, x1, y1, t0, t1));
    }

    private void readOne(int run, int t, int i) {
        int h = aHeight();
        checks.due(run + ": read(" + t + ", " + i + ", " + h + ")", real.read(t, i, h), model.read(t, i, h));
    }

    private void step(int run) {
        switch (random.nextInt(10)) {
            case 0 -> change(run);
            case 1, 2 -> askCrossing(run);
            case 3, 4, 5 -> askClosing(run);
            case 6, 7 -> askTones(run);
            case 8 -> askBox(run);
            default -> {
                int what = number(0, 3);
                checks.due(run + ": count(" + what + ")", real.count(what), model.count(what));
            }
        }
    }

    private void change(int run) {
        if (chance(15)) {
            addTrack(run);
        } else if (chance(60)) {
            readOne(run, aTrack(), number(0, 8));
        } else {
            int t = aTrack();
            boolean out = chance(35);
            checks.due(run + ": hold(" + t + ", " + out + ")", real.hold(t, out), model.hold(t, out));
        }
    }

    private void askCrossing(int run) {
        int a = aTrack();
        int b = aTrack();
        if (chance(25)) {
            checks.due(run + ": crosses(" + a + ", " + b + ")", real.crosses(a, b), model.crosses(a, b));
        } else if (chance(30)) {
            checks.due(run + ": difference(" + a + ", " + b + ")", real.difference(a, b), model.difference(a, b));
        } else {
            int what = number(0, 7);
            int part = number(0, 1);
            checks.due(run + ": cross(" + a + ", " + b + ", " + what + ", " + part + ")",
                real.cross(a, b, what, part), model.cross(a, b, what, part));
        }
    }

    private void askClosing(int run) {
        switch (random.nextInt(5)) {
            case 0 -> {
                int what = number(0, 2);
                checks.due(run + ": net(" + what + ")", real.net(what), model.net(what));
            }
            case 1 -> {
                int t = aTrack();
                int part = number(0, 1);
                checks.due(run + ": off(" + t + ", " + part + ")", real.off(t, part), model.off(t, part));
            }
            case 2 -> checks.due(run + ": before()", real.before(), model.before());
            case 3 -> checks.due(run + ": behind()", real.behind(), model.behind());
            default -> {
                int a = number(0, 5);
                int b = chance(95) ? a + 1 : aTrack();
                int c = chance(95) ? Math.max(b, 0) % 8 + 1 : aTrack();
                checks.due(run + ": loop(" + a + ", " + b + ", " + c + ")", real.loop(a, b, c), model.loop(a, b, c));
            }
        }
    }

    private void askTones(int run) {
        if (chance(15)) {
            int p = aPeriod();
            checks.due(run + ": tone(" + p + ")", real.tone(p), model.tone(p));
        } else if (chance(50)) {
            int tone = aTone();
            int r = aPeriod();
            int part = number(0, 1);
            checks.due(run + ": seen(" + tone + ", " + r + ", " + part + ")",
                real.seen(tone, r, part), model.seen(tone, r, part));
        } else {
            int tone = aTone();
            int other = aTone();
            int r = aPeriod();
            int y = chance(50) ? number(1, 100000) : number(1, 20);
            checks.due(run + ": apart(" + tone + ", " + other + ", " + r + ", " + y + ")",
                real.apart(tone, other, r, y), model.apart(tone, other, r, y));
        }
    }

    private void askBox(int run) {
        int w = chance(50) ? number(1, 50) : number(1, 4);
        int most = Math.max(1, reach / Math.max(1, w % 64));
        int i = number(-most, most);
        int j = number(-most, most);
        int what = number(0, 1);
        checks.due(run + ": box(" + w + ", " + i + ", " + j + ", " + what + ")",
            real.box(w, i, j, what), model.box(w, i, j, what));
    }
}
