/** Each sentence of the document on an edge of crossings, differences and loops (promises 5 to 7, 12). */
public final class EdgesOfCrossingsTest {
    private static final int NO = Scenes.CROSS_NO;
    private static final int BAD = Scenes.CROSS_BAD;

    private static final Checks CHECKS = new Checks("EdgesOfCrossingsTest");

    public static void main(String[] args) {
        endsWith();
        justPastAnEnd();
        noPlaceInCommon();
        alongOneLine();
        almostAlongOneLine();
        partsOfACrossing();
        lowestTerms();
        noHeightNeeded();
        heightAtAnEighth();
        heightBetween();
        heightBesideAnEighth();
        heightOfTheOneAskedFor();
        crossOfNothingTold();
        crossBadBeforeNo();
        crossesOfNothingTold();
        crossesWhatIsHeldOut();
        roundedDown();
        largestDifferences();
        aBelowB();
        noDifference();
        differenceBadBeforeNo();
        loopAtItsMost();
        loopRises();
        loopWithoutOne();
        loopBadBeforeNo();
        CHECKS.end();
    }

    private static void due(String call, long got, long want) {
        CHECKS.due(call, got, want);
    }

    private static void dueFraction(String call, TrackCrossings x, int[] asked, long[] want) {
        due(call + ", above", x.cross(asked[0], asked[1], asked[2], 0), want[0]);
        due(call + ", below", x.cross(asked[0], asked[1], asked[2], 1), want[1]);
    }

    /** One track from 0, 0 to 8, 0 and another as told. */
    private static TrackCrossings eightAnd(int x0, int y0, int x1, int y1) {
        TrackCrossings x = new TrackCrossings();
        x.track(0, 0, 8, 0, 10, 90);
        x.track(x0, y0, x1, y1, 5, 6);
        return x;
    }

    private static void endsWith() {
        CHECKS.sentence("shares sA, sB of 0 to 1, both ends with");
        // Places of the other track, then the share of the first and of the other, each above and below.
        int[][] meetings = {{0, 0, 0, 5, 0, 1, 0, 1}, {0, 5, 0, 0, 0, 1, 1, 1}, {8, 0, 8, 5, 1, 1, 0, 1},
            {8, 5, 8, 0, 1, 1, 1, 1}, {4, 0, 4, 5, 1, 2, 0, 1}, {4, 5, 4, 0, 1, 2, 1, 1}, {0, -3, 0, 5, 0, 1, 3, 8},
            {8, -3, 8, 5, 1, 1, 3, 8}, {8, 5, 8, -3, 1, 1, 5, 8}, {1, -1, -1, 1, 0, 1, 1, 2},
            {7, 1, 9, -1, 1, 1, 1, 2}};
        for (int[] m : meetings) {
            TrackCrossings x = eightAnd(m[0], m[1], m[2], m[3]);
            String with = " with " + m[0] + ", " + m[1] + " to " + m[2] + ", " + m[3];
            due("crosses(0, 1)" + with, x.crosses(0, 1), 1);
            due("crosses(1, 0)" + with, x.crosses(1, 0), 1);
            dueFraction("share of 0" + with, x, new int[] {0, 1, 4}, new long[] {m[4], m[5]});
            dueFraction("share of 1" + with, x, new int[] {0, 1, 5}, new long[] {m[6], m[7]});
            dueFraction("share of 1, named first" + with, x, new int[] {1, 0, 4}, new long[] {m[6], m[7]});
            dueFraction("share of 0, named last" + with, x, new int[] {1, 0, 5}, new long[] {m[4], m[5]});
        }
    }

    private static void justPastAnEnd() {
        CHECKS.sentence("shares of 0 to 1 (just within, just past)");
        TrackCrossings within = eightAnd(7, -99, 8, 1);
        due("crosses at 7.99", within.crosses(0, 1), 1);
        dueFraction("share at 7.99", within, new int[] {0, 1, 4}, new long[] {799, 800});
        due("crosses at 8.01", eightAnd(9, -99, 8, 1).crosses(0, 1), 0);
        due("crosses at 0.01", eightAnd(1, -99, 0, 1).crosses(0, 1), 1);
        due("crosses at -0.01", eightAnd(-1, -99, 0, 1).crosses(0, 1), 0);
        due("crosses at 8.01, named the other way", eightAnd(9, -99, 8, 1).crosses(1, 0), 0);
        due("crosses at -0.01, named the other way", eightAnd(-1, -99, 0, 1).crosses(1, 0), 0);
        due("cross at 8.01", eightAnd(9, -99, 8, 1).cross(0, 1, 4, 0), NO);
        due("cross at -0.01", eightAnd(-1, -99, 0, 1).cross(0, 1, 4, 0), NO);
        // At x = -99 the long track is at y = -99.005.
        TrackCrossings x = new TrackCrossings();
        x.track(-100, -100, 100, 99, 0, 1);
        x.track(-99, 0, -99, -99, 0, 1);
        x.track(-99, 0, -99, -100, 0, 1);
        due("crosses one that ends 0.005 before", x.crosses(0, 1), 0);
        due("crosses one that ends 0.995 behind", x.crosses(0, 2), 1);
        dueFraction("share of it", x, new int[] {0, 2, 5}, new long[] {19801, 20000});
    }

    private static void noPlaceInCommon() {
        CHECKS.sentence("have a place in common");
        due("crosses one that ends 1 above", eightAnd(4, 5, 4, 1).crosses(0, 1), 0);
        due("crosses one that starts 1 below", eightAnd(4, -1, 4, -5).crosses(0, 1), 0);
        due("crosses one far away", eightAnd(50, 50, 60, 70).crosses(0, 1), 0);
        due("crosses one past both ends", eightAnd(9, 1, 10, 3).crosses(0, 1), 0);
        due("crosses one whose line meets it, not itself", eightAnd(4, 2, 5, 9).crosses(0, 1), 0);
        due("cross of it", eightAnd(4, 2, 5, 9).cross(0, 1, 0, 0), NO);
    }

    private static void alongOneLine() {
        CHECKS.sentence("do not lie along one another (their directions are not along one line)");
        int[][] along = {{0, 0, 8, 0}, {8, 0, 0, 0}, {2, 0, 5, 0}, {5, 0, 2, 0}, {-3, 0, 3, 0}, {8, 0, 20, 0},
            {20, 0, 8, 0}, {-9, 0, 0, 0}, {0, 0, -9, 0}, {9, 0, 20, 0}, {0, 1, 8, 1}, {-100, 0, 100, 0}};
        for (int[] a : along) {
            TrackCrossings x = eightAnd(a[0], a[1], a[2], a[3]);
            Scenes.fill(x, 0, 5);
            Scenes.fill(x, 1, 5);
            String with = " with " + a[0] + ", " + a[1] + " to " + a[2] + ", " + a[3];
            due("crosses(0, 1)" + with, x.crosses(0, 1), 0);
            due("crosses(1, 0)" + with, x.crosses(1, 0), 0);
            due("cross(0, 1, 0, 0)" + with, x.cross(0, 1, 0, 0), NO);
            due("difference(0, 1)" + with, x.difference(0, 1), NO);
        }
        TrackCrossings y = new TrackCrossings();
        y.track(0, 0, 1, 2, 0, 1);
        y.track(-2, -4, 2, 4, 0, 1);
        y.track(0, 0, 0, 9, 0, 1);
        y.track(0, 0, 0, -9, 0, 1);
        due("crosses one along a slope", y.crosses(0, 1), 0);
        due("crosses one on along y from one start", y.crosses(2, 3), 0);
        due("crosses one of another direction from one start", y.crosses(0, 2), 1);
    }

    private static void almostAlongOneLine() {
        CHECKS.sentence("their directions are not along one line (but almost)");
        TrackCrossings x = new TrackCrossings();
        x.track(0, 0, 100, 99, 0, 1);
        x.track(0, 0, 99, 98, 0, 1);
        x.track(1, 1, 100, 99, 0, 1);
        due("crosses at one start", x.crosses(0, 1), 1);
        due("crosses at one end", x.crosses(0, 2), 1);
        dueFraction("share at one start", x, new int[] {0, 1, 4}, new long[] {0, 1});
        dueFraction("share at one end", x, new int[] {0, 2, 5}, new long[] {1, 1});
        due("crosses past both starts", x.crosses(1, 2), 0);
    }

    private static void partsOfACrossing() {
        CHECKS.sentence("5: what 0 x, 1 y, 2 time of a, 3 of b, 4 share of a, 5 of b, 6 HEIGHT of a, 7 of b");
        TrackCrossings x = new TrackCrossings();
        // They meet at -2/3, -1: at share 7/15 of the first and 1/3 of the second.
        x.track(-3, -1, 2, -1, 10, 40);
        x.track(-1, -2, 0, 1, 0, 7);
        x.read(0, 3, 0);
        x.read(0, 4, 15);
        x.read(1, 2, -3);
        x.read(1, 3, 0);
        long[][] want = {{-2, 3}, {-1, 1}, {24, 1}, {7, 3}, {7, 15}, {1, 3}, {11, 1}, {-1, 1}};
        int[] ofTheOther = {0, 1, 3, 2, 5, 4, 7, 6};
        for (int what = 0; what < 8; what++) {
            dueFraction("cross(0, 1, " + what + ")", x, new int[] {0, 1, what}, want[what]);
            dueFraction("cross(1, 0, " + what + ")", x, new int[] {1, 0, what}, want[ofTheOther[what]]);
        }
    }

    private static void lowestTerms() {
        CHECKS.sentence("Fractions in lowest terms, what is below above 0 (cross)");
        TrackCrossings x = Scenes.plus();
        x.read(0, 4, 0);
        x.read(1, 4, -10000);
        dueFraction("x of 0", x, new int[] {0, 1, 0}, new long[] {0, 1});
        dueFraction("time of 8", x, new int[] {0, 1, 2}, new long[] {8, 1});
        dueFraction("share of a half", x, new int[] {0, 1, 4}, new long[] {1, 2});
        dueFraction("HEIGHT of 0", x, new int[] {0, 1, 6}, new long[] {0, 1});
        dueFraction("HEIGHT of -10000", x, new int[] {0, 1, 7}, new long[] {-10000, 1});
        x.track(-8, -1, 8, 7, 0, 1);
        dueFraction("x of -6", x, new int[] {0, 2, 0}, new long[] {-6, 1});
        dueFraction("x of -6, the other way", x, new int[] {2, 0, 0}, new long[] {-6, 1});
        x.track(-8, 7, 8, -2, 0, 1);
        dueFraction("y of 5/2", x, new int[] {3, 1, 1}, new long[] {5, 2});
        dueFraction("x of 40/9", x, new int[] {3, 0, 0}, new long[] {40, 9});
        x.track(8, 7, -8, -2, 0, 1);
        dueFraction("x of -40/9", x, new int[] {4, 0, 0}, new long[] {-40, 9});
        dueFraction("x of -40/9, the other way", x, new int[] {0, 4, 0}, new long[] {-40, 9});
    }

    private static void noHeightNeeded() {
        CHECKS.sentence("5: NO: .. or HEIGHT is MISSING there (6, 7)");
        TrackCrossings x = Scenes.plus();
        for (int what = 0; what < 6; what++) {
            due("a place, time or share " + what + " is told without", x.cross(0, 1, what, 1), what < 4 ? 1 : 2);
        }
        for (int what = 6; what < 8; what++) {
            due("HEIGHT " + what + ", above", x.cross(0, 1, what, 0), NO);
            due("HEIGHT " + what + ", below", x.cross(0, 1, what, 1), NO);
        }
    }

    private static void heightAtAnEighth() {
        CHECKS.sentence("at an eighth just the one");
        for (int k = 0; k <= 8; k++) {
            TrackCrossings x = eightAnd(k, -1, k, 1);
            x.read(0, k, 7);
            dueFraction("HEIGHT at " + k + " with that one alone", x, new int[] {0, 1, 6}, new long[] {7, 1});
            dueFraction("the same, named last", x, new int[] {1, 0, 7}, new long[] {7, 1});
            Scenes.fill(x, 0, 3);
            x.read(0, k, Scenes.MISSING);
            due("HEIGHT at " + k + " without that one alone", x.cross(0, 1, 6, 0), NO);
            due("the same, named last", x.cross(1, 0, 7, 0), NO);
        }
    }

    private static void heightBetween() {
        CHECKS.sentence("HEIGHT at a share between two READINGS lies straight between; MISSING, if one of them is");
        for (int k = 0; k < 8; k++) {
            TrackCrossings x = new TrackCrossings();
            x.track(0, 0, 16, 0, 0, 1);
            x.track(2 * k + 1, -1, 2 * k + 1, 1, 0, 1);
            x.read(0, k, 10);
            due("HEIGHT behind " + k + " with the left one alone", x.cross(0, 1, 6, 0), NO);
            x.read(0, k + 1, 5);
            dueFraction("HEIGHT behind " + k + " with both", x, new int[] {0, 1, 6}, new long[] {15, 2});
            x.read(0, k, -10000);
            x.read(0, k + 1, 10000);
            dueFraction("HEIGHT half way from the lowest to the highest", x, new int[] {0, 1, 6}, new long[] {0, 1});
            x.read(0, k, Scenes.MISSING);
            due("HEIGHT behind " + k + " with the right one alone", x.cross(0, 1, 6, 0), NO);
        }
    }

    /** A long track from -100 to 100 and one that crosses it at 0.01 (side 1) or -0.01 (side -1). */
    private static TrackCrossings besideTheMiddle(int side) {
        TrackCrossings x = new TrackCrossings();
        x.track(-100, 0, 100, 0, 0, 1);
        x.track(0, -1, side, 99, 0, 1);
        Scenes.fill(x, 1, 0);
        return x;
    }

    private static void heightBesideAnEighth() {
        CHECKS.sentence("MISSING, if one of them is (of the two that are needed: just beside an eighth)");
        for (int side = -1; side <= 1; side += 2) {
            TrackCrossings x = besideTheMiddle(side);
            x.read(0, 4, 0);
            due("with the near one alone, side " + side, x.cross(0, 1, 6, 0), NO);
            x.read(0, 4 - side, 10000);
            due("with the one of the other side, side " + side, x.cross(0, 1, 6, 0), NO);
            x.read(0, 4 + side, 10000);
            dueFraction("0.0004 of the way, side " + side, x, new int[] {0, 1, 6}, new long[] {4, 1});
            x.read(0, 4, Scenes.MISSING);
            due("without the near one, side " + side, x.cross(0, 1, 6, 0), NO);
        }
    }

    private static void heightOfTheOneAskedFor() {
        CHECKS.sentence("6 HEIGHT of a, 7 of b (the other may be MISSING)");
        TrackCrossings x = Scenes.plus();
        x.read(0, 4, 9);
        due("of a, b MISSING", x.cross(0, 1, 6, 0), 9);
        due("of b, which is MISSING", x.cross(0, 1, 7, 0), NO);
        due("of a, named last", x.cross(1, 0, 7, 0), 9);
        due("of b, named first", x.cross(1, 0, 6, 0), NO);
    }

    private static void crossOfNothingTold() {
        CHECKS.sentence("5: BAD (a is b, too) answers -1000000001");
        TrackCrossings x = Scenes.plus();
        int[] noTracks = {-1, 2, 8, Scenes.FAR, Scenes.DEEP};
        for (int t : noTracks) {
            due("cross(" + t + ", 0, 0, 0)", x.cross(t, 0, 0, 0), BAD);
            due("cross(0, " + t + ", 0, 0)", x.cross(0, t, 0, 0), BAD);
            due("cross(" + t + ", " + t + ", 0, 0)", x.cross(t, t, 0, 0), BAD);
        }
        due("cross(0, 0, 0, 0)", x.cross(0, 0, 0, 0), BAD);
        due("cross(1, 1, 0, 0)", x.cross(1, 1, 0, 0), BAD);
        int[] noKinds = {-1, 8, 9, Scenes.FAR, Scenes.DEEP};
        for (int what : noKinds) {
            due("cross(0, 1, " + what + ", 0)", x.cross(0, 1, what, 0), BAD);
        }
        int[] noParts = {-1, 2, 3, Scenes.FAR, Scenes.DEEP};
        for (int part : noParts) {
            due("cross(0, 1, 0, " + part + ")", x.cross(0, 1, 0, part), BAD);
        }
    }

    private static void crossBadBeforeNo() {
        CHECKS.sentence("Of several the first (of BAD and NO: cross)");
        TrackCrossings x = eightAnd(0, 1, 8, 1);
        due("they do not cross", x.cross(0, 1, 0, 0), NO);
        due("what is none, and they do not cross", x.cross(0, 1, 8, 0), BAD);
        due("part is none, and they do not cross", x.cross(0, 1, 0, 2), BAD);
        TrackCrossings y = Scenes.plus();
        due("part is none, and HEIGHT is MISSING", y.cross(0, 1, 6, 2), BAD);
        due("one alone, whose HEIGHT is MISSING", y.cross(0, 0, 6, 0), BAD);
    }

    private static void crossesOfNothingTold() {
        CHECKS.sentence("6: BAD");
        TrackCrossings x = Scenes.plus();
        int[] noTracks = {-1, 2, 8, Scenes.FAR, Scenes.DEEP};
        for (int t : noTracks) {
            due("crosses(" + t + ", 0)", x.crosses(t, 0), -1);
            due("crosses(0, " + t + ")", x.crosses(0, t), -1);
            due("crosses(" + t + ", " + t + ")", x.crosses(t, t), -1);
        }
        due("crosses(0, 0)", x.crosses(0, 0), -1);
        due("crosses(1, 1)", x.crosses(1, 1), -1);
    }

    private static void crossesWhatIsHeldOut() {
        CHECKS.sentence("A TRACK may be HELD OUT: it has no DIFFERENCES (but CROSSES)");
        TrackCrossings x = Scenes.plus();
        x.read(0, 4, 3);
        x.read(1, 4, 1);
        x.hold(0, true);
        due("crosses(0, 1)", x.crosses(0, 1), 1);
        due("crosses(1, 0)", x.crosses(1, 0), 1);
        due("cross(0, 1, 2, 0)", x.cross(0, 1, 2, 0), 8);
        due("cross(0, 1, 6, 0)", x.cross(0, 1, 6, 0), 3);
        due("difference(0, 1)", x.difference(0, 1), NO);
    }

    private static void roundedDown() {
        CHECKS.sentence("ten times (HEIGHT of a less that of b), rounded down to a whole");
        TrackCrossings x = besideTheMiddle(1);
        x.read(0, 4, 0);
        // The HEIGHT is 0.0004 of the reading 5.
        int[][] cases = {{25, 0}, {-25, -1}, {250, 1}, {-250, -1}, {249, 0}, {-251, -2}, {2499, 9}, {-2499, -10},
            {-2501, -11}, {1, 0}, {-1, -1}, {0, 0}};
        for (int[] c : cases) {
            x.read(0, 5, c[0]);
            due("difference(0, 1) with the reading at " + c[0], x.difference(0, 1), c[1]);
        }
        // A quarter of the way from 0 to 1 the second has 1/4, so 10 times it is 5/2.
        TrackCrossings y = new TrackCrossings();
        y.track(-1, 0, 1, 0, 0, 1);
        y.track(0, -1, 0, 31, 0, 1);
        y.read(0, 4, 0);
        y.read(1, 0, 0);
        y.read(1, 1, 1);
        due("difference(0, 1) of 0 and 1/4", y.difference(0, 1), -3);
        y.read(1, 1, -1);
        due("difference(0, 1) of 0 and -1/4", y.difference(0, 1), 2);
    }

    private static void largestDifferences() {
        CHECKS.sentence("ten times (HEIGHT of a less that of b) (at its most and least)");
        TrackCrossings x = Scenes.plus();
        x.read(0, 4, 10000);
        x.read(1, 4, -10000);
        due("difference(0, 1)", x.difference(0, 1), 200000);
        x.read(0, 4, -10000);
        x.read(1, 4, 10000);
        due("difference(0, 1) turned round", x.difference(0, 1), -200000);
        x.read(1, 4, -10000);
        due("difference(0, 1) of the same", x.difference(0, 1), 0);
    }

    private static void aBelowB() {
        CHECKS.sentence("7: BAD: a not below b");
        TrackCrossings x = Scenes.plus();
        Scenes.fill(x, 0, 2);
        Scenes.fill(x, 1, 1);
        due("difference(0, 1)", x.difference(0, 1), 10);
        due("difference(1, 0)", x.difference(1, 0), BAD);
        due("difference(0, 0)", x.difference(0, 0), BAD);
        due("difference(1, 1)", x.difference(1, 1), BAD);
        int[][] wrong = {{-1, 0}, {-1, 1}, {0, 2}, {1, 2}, {2, 3}, {0, 8}, {-2, -1}, {Scenes.DEEP, Scenes.FAR},
            {Scenes.DEEP, 0}, {0, Scenes.FAR}, {Scenes.FAR, Scenes.DEEP}};
        for (int[] w : wrong) {
            due("difference(" + w[0] + ", " + w[1] + ")", x.difference(w[0], w[1]), BAD);
        }
    }

    private static void noDifference() {
        CHECKS.sentence("7: NO answers -1000000002 (HELD OUT, MISSING, too)");
        TrackCrossings x = Scenes.plus();
        due("both MISSING", x.difference(0, 1), NO);
        x.read(1, 4, 1);
        due("a MISSING", x.difference(0, 1), NO);
        x.read(0, 4, 2);
        x.read(1, 4, Scenes.MISSING);
        due("b MISSING", x.difference(0, 1), NO);
        x.read(1, 4, 1);
        due("none MISSING", x.difference(0, 1), 10);
        x.hold(0, true);
        due("a HELD OUT", x.difference(0, 1), NO);
        x.hold(1, true);
        due("both HELD OUT", x.difference(0, 1), NO);
        x.hold(0, false);
        due("b HELD OUT", x.difference(0, 1), NO);
        x.hold(1, false);
        due("none HELD OUT", x.difference(0, 1), 10);
        TrackCrossings y = eightAnd(4, 1, 4, 5);
        Scenes.fill(y, 0, 1);
        Scenes.fill(y, 1, 1);
        due("they do not CROSS", y.difference(0, 1), NO);
    }

    private static void differenceBadBeforeNo() {
        CHECKS.sentence("Of several the first (of BAD and NO: difference)");
        TrackCrossings x = Scenes.plus();
        x.hold(0, true);
        due("difference(1, 0), MISSING and HELD OUT", x.difference(1, 0), BAD);
        due("difference(0, 0), HELD OUT", x.difference(0, 0), BAD);
        due("difference(0, 2), HELD OUT", x.difference(0, 2), BAD);
    }

    private static void loopAtItsMost() {
        CHECKS.sentence("that of a, b and that of b, c less that of a, c");
        TrackCrossings x = Scenes.triangle(0, 0, 0);
        due("loop(0, 1, 2) of nothing", x.loop(0, 1, 2), 0);
        x.read(0, 2, 10000);
        due("a higher at b", x.loop(0, 1, 2), 100000);
        x.read(1, 2, -10000);
        due("b lower at a", x.loop(0, 1, 2), 200000);
        x.read(1, 4, 10000);
        due("b higher at c", x.loop(0, 1, 2), 300000);
        x.read(2, 2, -10000);
        due("c lower at b", x.loop(0, 1, 2), 400000);
        x.read(0, 6, -10000);
        due("a lower at c", x.loop(0, 1, 2), 500000);
        x.read(2, 4, 10000);
        due("c higher at a", x.loop(0, 1, 2), 600000);
        int[][] turned = {{0, 2}, {0, 6}, {1, 2}, {1, 4}, {2, 2}, {2, 4}};
        for (int[] at : turned) {
            x.read(at[0], at[1], -x.read(at[0], at[1], 0));
        }
        due("all turned round", x.loop(0, 1, 2), -600000);
    }

    private static void loopRises() {
        CHECKS.sentence("12: BAD (not rising) -1000000001");
        TrackCrossings x = Scenes.triangle(1, 2, 3);
        int[][] wrong = {{0, 2, 1}, {1, 0, 2}, {1, 2, 0}, {2, 0, 1}, {2, 1, 0}, {0, 0, 1}, {0, 0, 2}, {0, 1, 1},
            {0, 2, 2}, {0, 1, 0}, {1, 1, 1}, {-1, 0, 1}, {-1, 1, 2}, {0, 1, 3}, {0, 3, 4}, {3, 4, 5}, {-3, -2, -1},
            {Scenes.DEEP, 0, Scenes.FAR}, {Scenes.DEEP, Scenes.DEEP + 1, 0}, {0, 1, Scenes.FAR},
            {Scenes.FAR, Scenes.DEEP, 0}};
        for (int[] w : wrong) {
            due("loop(" + w[0] + ", " + w[1] + ", " + w[2] + ")", x.loop(w[0], w[1], w[2]), BAD);
        }
        due("loop(0, 1, 2)", x.loop(0, 1, 2), 0);
    }

    private static void loopWithoutOne() {
        CHECKS.sentence("12: NO -1000000002 (with three DIFFERENCES)");
        int[][] needed = {{0, 2}, {0, 6}, {1, 2}, {1, 4}, {2, 2}, {2, 4}};
        for (int[] at : needed) {
            TrackCrossings x = Scenes.triangle(1, 2, 3);
            x.read(at[0], at[1], Scenes.MISSING);
            due("reading " + at[1] + " of " + at[0] + " MISSING", x.loop(0, 1, 2), NO);
        }
        for (int held = 0; held < 3; held++) {
            TrackCrossings x = Scenes.triangle(1, 2, 3);
            x.hold(held, true);
            due(held + " HELD OUT", x.loop(0, 1, 2), NO);
            x.hold(held, false);
            due(held + " HELD OUT no more", x.loop(0, 1, 2), 0);
        }
        // The fourth crosses 1 and 2 alone, the fifth 0 alone.
        TrackCrossings x = Scenes.triangle(1, 2, 3);
        x.track(-4, 1, 4, 1, 0, 1);
        x.track(-6, -1, -6, 1, 0, 1);
        Scenes.fill(x, 3, 4);
        Scenes.fill(x, 4, 4);
        due("1, 2 and the fourth", x.loop(1, 2, 3), 0);
        due("the first and the last do not CROSS the fourth both", x.loop(0, 1, 3), NO);
        due("the second does not CROSS the fifth", x.loop(0, 1, 4), NO);
    }

    private static void loopBadBeforeNo() {
        CHECKS.sentence("Of several the first (of BAD and NO: loop)");
        TrackCrossings x = Scenes.triangle(1, 2, 3);
        x.hold(0, true);
        due("loop(0, 2, 1), HELD OUT", x.loop(0, 2, 1), BAD);
        due("loop(0, 1, 3), HELD OUT", x.loop(0, 1, 3), BAD);
        due("loop(0, 0, 1), HELD OUT", x.loop(0, 0, 1), BAD);
    }
}
