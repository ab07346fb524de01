/** Each sentence of the document on an edge of boxes (promise 16). */
public final class EdgesOfBoxesTest {
    private static final Checks CHECKS = new Checks("EdgesOfBoxesTest");

    public static void main(String[] args) {
        widths();
        numbersOfBoxes();
        whatIsAsked();
        roundedDownAtWholes();
        roundedDownBetween();
        widestBox();
        cornersOfTheMap();
        bothPlacesCount();
        exactly();
        notMissing();
        notHeldOut();
        manyAndNone();
        timesTen();
        lessOffRoundedDown();
        lessOffOfEach();
        offOfTheHeldOut();
        CHECKS.end();
    }

    private static void due(String call, long got, long want) {
        CHECKS.due(call, got, want);
    }

    private static void dueBox(TrackCrossings x, int[] box, long many, long sum) {
        String of = "box(" + box[0] + ", " + box[1] + ", " + box[2] + ", ";
        due(of + "0)", x.box(box[0], box[1], box[2], 0), many);
        due(of + "1)", x.box(box[0], box[1], box[2], 1), sum);
    }

    private static void dueBad(TrackCrossings x, int w, int i, int j, int what) {
        due("box(" + w + ", " + i + ", " + j + ", " + what + ")", x.box(w, i, j, what), Scenes.WIDE_BAD);
    }

    /** One track whose readings are 1, 2, 4, .. 256, so that each sum tells which are in it. */
    private static TrackCrossings doubling(int x0, int y0, int x1, int y1) {
        TrackCrossings x = new TrackCrossings();
        x.track(x0, y0, x1, y1, 0, 1);
        for (int i = 0; i <= 8; i++) {
            x.read(0, i, 1 << i);
        }
        return x;
    }

    private static void widths() {
        CHECKS.sentence("BOXES: of w (1 to 50) by w");
        TrackCrossings x = doubling(0, 0, 8, 0);
        int[] none = {0, -1, 51, 100, -50, 1 << 29, 1 << 28, Scenes.FAR, Scenes.DEEP};
        for (int w : none) {
            dueBad(x, w, 0, 0, 0);
            dueBad(x, w, 0, 0, 1);
        }
        dueBox(x, new int[] {1, 0, 0}, 1, 10);
        dueBox(x, new int[] {2, 0, 0}, 2, 30);
        dueBox(x, new int[] {49, 0, 0}, 9, 5110);
        dueBox(x, new int[] {50, 0, 0}, 9, 5110);
    }

    private static void numbersOfBoxes() {
        CHECKS.sentence("16: BAD: also i, j not -100 to 100; answers -1000000000000000000");
        TrackCrossings x = doubling(0, 0, 8, 0);
        int[] none = {-101, 101, 200, -1000, Scenes.FAR, Scenes.DEEP};
        for (int number : none) {
            dueBad(x, 1, number, 0, 0);
            dueBad(x, 1, 0, number, 0);
            dueBad(x, 50, number, number, 1);
        }
        dueBox(x, new int[] {1, 100, 100}, 0, 0);
        dueBox(x, new int[] {1, -100, -100}, 0, 0);
        dueBox(x, new int[] {50, 100, -100}, 0, 0);
        dueBox(x, new int[] {50, -100, 100}, 0, 0);
    }

    private static void whatIsAsked() {
        CHECKS.sentence("16: how many (what = 0), the sum (1). BAD");
        TrackCrossings x = doubling(0, 0, 8, 0);
        int[] none = {-1, 2, 3, Scenes.FAR, Scenes.DEEP};
        for (int what : none) {
            dueBad(x, 1, 0, 0, what);
        }
        dueBox(x, new int[] {3, 0, 0}, 3, 70);
    }

    private static void roundedDownAtWholes() {
        CHECKS.sentence("by x and y by w, rounded down (at an edge of a BOX)");
        TrackCrossings x = doubling(-4, 0, 4, 0);
        dueBox(x, new int[] {4, -1, 0}, 4, 10 * (1 + 2 + 4 + 8));
        dueBox(x, new int[] {4, 0, 0}, 4, 10 * (16 + 32 + 64 + 128));
        dueBox(x, new int[] {4, 1, 0}, 1, 2560);
        dueBox(x, new int[] {3, -2, 0}, 1, 10);
        dueBox(x, new int[] {3, -1, 0}, 3, 10 * (2 + 4 + 8));
        dueBox(x, new int[] {3, 0, 0}, 3, 10 * (16 + 32 + 64));
        TrackCrossings y = doubling(0, 4, 0, -4);
        dueBox(y, new int[] {4, 0, 1}, 1, 10);
        dueBox(y, new int[] {4, 0, 0}, 4, 10 * (2 + 4 + 8 + 16));
        dueBox(y, new int[] {4, 0, -1}, 4, 10 * (32 + 64 + 128 + 256));
    }

    private static void roundedDownBetween() {
        CHECKS.sentence("by x and y by w, rounded down (an eighth beside an edge, below 0 too)");
        TrackCrossings x = doubling(-1, 0, 0, 0);
        dueBox(x, new int[] {1, -1, 0}, 8, 2550);
        dueBox(x, new int[] {1, 0, 0}, 1, 2560);
        TrackCrossings y = doubling(1, 1, 2, 2);
        dueBox(y, new int[] {2, 0, 0}, 8, 2550);
        dueBox(y, new int[] {2, 1, 1}, 1, 2560);
        TrackCrossings z = doubling(0, -3, 0, -4);
        dueBox(z, new int[] {3, 0, -1}, 1, 10);
        dueBox(z, new int[] {3, 0, -2}, 8, 5100);
    }

    private static void widestBox() {
        CHECKS.sentence("by x and y by w, rounded down (of the widest)");
        dueBox(doubling(-51, 0, -50, 0), new int[] {50, -2, 0}, 8, 2550);
        dueBox(doubling(-51, 0, -50, 0), new int[] {50, -1, 0}, 1, 2560);
        dueBox(doubling(49, 0, 50, 0), new int[] {50, 0, 0}, 8, 2550);
        dueBox(doubling(49, 0, 50, 0), new int[] {50, 1, 0}, 1, 2560);
        TrackCrossings x = doubling(-100, 100, 100, -100);
        dueBox(x, new int[] {50, -2, 2}, 1, 10);
        dueBox(x, new int[] {50, -2, 1}, 1, 20);
        dueBox(x, new int[] {50, -1, 1}, 1, 40);
        dueBox(x, new int[] {50, 0, 0}, 1, 160);
        dueBox(x, new int[] {50, 2, -2}, 1, 2560);
    }

    private static void cornersOfTheMap() {
        CHECKS.sentence("the one of a place x, y (at the corners of the map)");
        int[][] corners = {{-100, -100}, {-100, 100}, {100, -100}, {100, 100}};
        for (int[] c : corners) {
            TrackCrossings x = doubling(0, 0, c[0], c[1]);
            dueBox(x, new int[] {1, c[0], c[1]}, 1, 2560);
        }
    }

    private static void bothPlacesCount() {
        CHECKS.sentence("the one of a place x, y by x and y (i by x, j by y)");
        TrackCrossings x = doubling(10, 20, 18, 20);
        dueBox(x, new int[] {5, 2, 4}, 5, 310);
        dueBox(x, new int[] {5, 4, 2}, 0, 0);
        dueBox(x, new int[] {5, 2, 2}, 0, 0);
        dueBox(x, new int[] {5, 4, 4}, 0, 0);
        dueBox(x, new int[] {5, 3, 4}, 4, 10 * (32 + 64 + 128 + 256));
    }

    private static void exactly() {
        CHECKS.sentence("whose place (exactly) lies in it");
        // x is -3, -2.125, -1.25, -0.375, 0.5, 1.375, 2.25, 3.125, 4; y is 0, 1/8, .. 1.
        TrackCrossings x = doubling(-3, 0, 4, 1);
        dueBox(x, new int[] {1, -3, 0}, 2, 30);
        dueBox(x, new int[] {1, -2, 0}, 1, 40);
        dueBox(x, new int[] {1, -1, 0}, 1, 80);
        dueBox(x, new int[] {1, 0, 0}, 1, 160);
        dueBox(x, new int[] {1, 1, 0}, 1, 320);
        dueBox(x, new int[] {1, 3, 0}, 1, 1280);
        dueBox(x, new int[] {1, 4, 0}, 0, 0);
        dueBox(x, new int[] {1, 4, 1}, 1, 2560);
    }

    private static void notMissing() {
        CHECKS.sentence("IN a BOX are READINGS that are not MISSING");
        TrackCrossings x = new TrackCrossings();
        x.track(0, 0, 8, 0, 0, 1);
        dueBox(x, new int[] {50, 0, 0}, 0, 0);
        x.read(0, 3, 0);
        dueBox(x, new int[] {50, 0, 0}, 1, 0);
        x.read(0, 4, -7);
        dueBox(x, new int[] {50, 0, 0}, 2, -70);
        x.read(0, 3, Scenes.MISSING);
        dueBox(x, new int[] {50, 0, 0}, 1, -70);
        x.read(0, 4, Scenes.MISSING);
        dueBox(x, new int[] {50, 0, 0}, 0, 0);
    }

    private static void notHeldOut() {
        CHECKS.sentence("of TRACKS not HELD OUT");
        TrackCrossings x = doubling(0, 0, 8, 0);
        x.track(0, 1, 8, 1, 0, 1);
        Scenes.fill(x, 1, 1);
        dueBox(x, new int[] {50, 0, 0}, 18, 5200);
        x.hold(0, true);
        dueBox(x, new int[] {50, 0, 0}, 9, 90);
        x.hold(1, true);
        dueBox(x, new int[] {50, 0, 0}, 0, 0);
        x.hold(0, false);
        dueBox(x, new int[] {50, 0, 0}, 9, 5110);
    }

    private static void manyAndNone() {
        CHECKS.sentence("how many, the sum of their HEIGHTS times ten (all there are, none)");
        TrackCrossings x = new TrackCrossings();
        dueBox(x, new int[] {50, 0, 0}, 0, 0);
        for (int t = 0; t < 8; t++) {
            x.track(0, t, 8, t, 0, 1);
            Scenes.fill(x, t, 10000);
        }
        dueBox(x, new int[] {50, 0, 0}, 72, 7200000);
        dueBox(x, new int[] {50, -1, 0}, 0, 0);
        dueBox(x, new int[] {50, 0, 1}, 0, 0);
        for (int t = 0; t < 8; t++) {
            Scenes.fill(x, t, -10000);
        }
        dueBox(x, new int[] {50, 0, 0}, 72, -7200000);
    }

    private static void timesTen() {
        CHECKS.sentence("each less the TRACK's OFF (a TRACK without any: 0)");
        TrackCrossings x = doubling(0, 0, 8, 0);
        x.track(4, -4, 4, 4, 0, 1);
        dueBox(x, new int[] {50, 0, 0}, 9, 5110);
        x.read(1, 4, 16);
        dueBox(x, new int[] {50, 0, 0}, 10, 5270);
    }

    private static void lessOffRoundedDown() {
        CHECKS.sentence("less the TRACK's OFF rounded down");
        // The HEIGHT half way from reading 4 to 5 of the first is 1/2, so OFF is 5/2 and -5/2: 2 and -3.
        TrackCrossings x = new TrackCrossings();
        x.track(-8, 0, 8, 0, 0, 1);
        x.track(1, -8, 1, 8, 0, 1);
        x.read(0, 4, 0);
        x.read(0, 5, 1);
        x.read(1, 4, 0);
        due("off(0, 0)", x.off(0, 0), 5);
        due("off(0, 1)", x.off(0, 1), 2);
        dueBox(x, new int[] {1, 0, 0}, 1, -2);
        dueBox(x, new int[] {1, 2, 0}, 1, 8);
        dueBox(x, new int[] {1, 1, 0}, 1, 3);
        x.read(0, 5, -1);
        due("off(0, 0) turned round", x.off(0, 0), -5);
        dueBox(x, new int[] {1, 0, 0}, 1, 3);
        dueBox(x, new int[] {1, 1, 0}, 1, -2);
        x.read(0, 5, 2);
        due("off(1, 0) of a whole", x.off(1, 0), -5);
        dueBox(x, new int[] {1, 1, 0}, 1, 5);
    }

    private static void lessOffOfEach() {
        CHECKS.sentence("the sum of their HEIGHTS times ten, each less the TRACK's OFF rounded down");
        // OFF is 10/3, -10/3 and 0: rounded down 3, -4 and 0, for each reading.
        TrackCrossings x = Scenes.triangle(0, 0, 0);
        x.read(0, 2, 1);
        due("off(1, 0)", x.off(1, 0), -10);
        dueBox(x, new int[] {50, 0, 0}, 5 + 5 + 3, -5 * 3 + 5 * 4);
        dueBox(x, new int[] {50, -1, 0}, 4 + 2 + 2, 10 - 4 * 3 + 2 * 4);
        dueBox(x, new int[] {50, -1, -1}, 2, 2 * 4);
        dueBox(x, new int[] {50, 0, -1}, 4, 0);
    }

    private static void offOfTheHeldOut() {
        CHECKS.sentence("less the TRACK's OFF (as it is without those HELD OUT)");
        // OFF is 10 and -10, and nothing but boxes is asked for.
        TrackCrossings x = Scenes.plus();
        x.read(0, 4, 3);
        x.read(0, 5, 0);
        x.read(1, 4, 1);
        dueBox(x, new int[] {50, 0, 0}, 3, (30 - 10) + (0 - 10) + (10 + 10));
        x.hold(1, true);
        dueBox(x, new int[] {50, 0, 0}, 2, 30);
        x.hold(0, true);
        x.hold(1, false);
        dueBox(x, new int[] {50, 0, 0}, 1, 10);
        x.hold(0, false);
        dueBox(x, new int[] {1, 0, 0}, 2, 40);
        x.read(0, 4, 5);
        dueBox(x, new int[] {50, 0, 0}, 3, (50 - 20) + (0 - 20) + (10 + 20));
    }
}
