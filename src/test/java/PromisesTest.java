/** Each promise of the document with answers worked out by hand: what is usual, edges, wrong calls. */
public final class PromisesTest {
    private static final Checks CHECKS = new Checks("PromisesTest");

    public static void main(String[] args) {
        aNewObject();
        tracks();
        tracksFull();
        readings();
        holding();
        crossPlaces();
        crossHeights();
        crossWrong();
        crossing();
        differences();
        nets();
        offs();
        squares();
        squaresOfSeveralNets();
        loops();
        tones();
        seenPeriods();
        toldApart();
        boxes();
        boxesLessOff();
        counts();
        CHECKS.end();
    }

    private static void due(String call, long got, long want) {
        CHECKS.due(call, got, want);
    }

    // Promise 1
    private static void aNewObject() {
        TrackCrossings x = new TrackCrossings();
        for (int what = 0; what <= 3; what++) {
            due("new: count(" + what + ")", x.count(what), 0);
        }
        for (int what = 0; what <= 2; what++) {
            due("new: net(" + what + ")", x.net(what), 0);
        }
        due("new: before()", x.before(), 0);
        due("new: behind()", x.behind(), 0);
        due("new: box(50, 0, 0, 0)", x.box(50, 0, 0, 0), 0);
        due("new: box(50, 0, 0, 1)", x.box(50, 0, 0, 1), 0);
        due("new: off(0, 0)", x.off(0, 0), Scenes.WIDE_BAD);
        due("new: seen(0, 1, 0)", x.seen(0, 1, 0), -1);
        new TrackCrossings().track(0, 0, 1, 1, 0, 1);
        due("new: objects share nothing", x.count(0), 0);
    }

    // Promise 2
    private static void tracks() {
        TrackCrossings x = new TrackCrossings();
        due("track: one place", x.track(3, 4, 3, 4, 0, 1), -1);
        int[] outside = {-101, 101, Scenes.FAR, Scenes.DEEP};
        for (int place : outside) {
            due("track: x0 " + place, x.track(place, 0, 1, 1, 0, 1), -1);
            due("track: y0 " + place, x.track(0, place, 1, 1, 0, 1), -1);
            due("track: x1 " + place, x.track(0, 0, place, 1, 0, 1), -1);
            due("track: y1 " + place, x.track(0, 0, 1, place, 0, 1), -1);
        }
        due("track: t0 below 0", x.track(0, 0, 1, 1, -1, 1), -1);
        due("track: t1 too late", x.track(0, 0, 1, 1, 0, 1000001), -1);
        due("track: one time", x.track(0, 0, 1, 1, 5, 5), -1);
        due("track: back in time", x.track(0, 0, 1, 1, 6, 5), -1);
        due("track: both too late", x.track(0, 0, 1, 1, 1000001, 1000002), -1);
        due("track: far times", x.track(0, 0, 1, 1, Scenes.DEEP, Scenes.FAR), -1);
        due("track: none of them stands", x.count(0), 0);
        due("track: the edges", x.track(-100, -100, 100, 100, 0, 1000000), 0);
        due("track: the other edges", x.track(100, 100, -100, -100, 999999, 1000000), 1);
        due("track: x differs alone", x.track(0, 0, 1, 0, 0, 1), 2);
        due("track: y differs alone", x.track(0, 0, 0, 1, 0, 1), 3);
        due("track: the same once more", x.track(0, 0, 0, 1, 0, 1), 4);
        due("track: how many", x.count(0), 5);
    }

    private static void tracksFull() {
        TrackCrossings x = new TrackCrossings();
        for (int t = 0; t < 8; t++) {
            due("track: the next", x.track(t, 0, 0, 9, 0, 1), t);
        }
        due("track: a ninth", x.track(0, 0, 1, 1, 0, 1), -3);
        due("track: a bad ninth", x.track(0, 0, 0, 0, 0, 1), -1);
        due("track: still eight", x.count(0), 8);
        due("track: there is none behind", x.hold(8, true), -1);
        Scenes.fill(x, 7, 1);
        x.hold(7, true);
        due("track: readings of the last", x.count(1), 9);
        due("track: the last held out", x.count(3), 1);
        due("track: all without a difference", x.net(2), 8);
    }

    // Promise 3
    private static void readings() {
        TrackCrossings x = Scenes.plus();
        due("read: at first", x.read(0, 0, 10000), Scenes.MISSING);
        due("read: what it was", x.read(0, 0, -10000), 10000);
        due("read: below 0", x.read(0, 0, Scenes.MISSING), -10000);
        due("read: missing again", x.read(0, 0, 0), Scenes.MISSING);
        due("read: 0 is a height", x.read(0, 0, 7), 0);
        due("read: the last", x.read(1, 8, 5), Scenes.MISSING);
        due("read: of its own track", x.read(1, 0, 5), Scenes.MISSING);
        int[][] wrong = {{-1, 0, 0}, {2, 0, 0}, {Scenes.FAR, 0, 0}, {Scenes.DEEP, 0, 0}, {0, -1, 0}, {0, 9, 0},
            {0, Scenes.FAR, 0},
            {0, Scenes.DEEP, 0}, {0, 0, 10001}, {0, 0, -10001}, {0, 0, 199999}, {0, 0, 200001}, {0, 0, -200000},
            {0, 0, Scenes.FAR}, {0, 0, Scenes.DEEP}};
        for (int[] w : wrong) {
            due("read(" + w[0] + ", " + w[1] + ", " + w[2] + ")", x.read(w[0], w[1], w[2]), 300000);
        }
        due("read: nothing changed", x.read(0, 0, 7), 7);
        due("read: how many", x.count(1), 3);
    }

    // Promise 4
    private static void holding() {
        TrackCrossings x = Scenes.plus();
        due("hold: at first", x.hold(0, false), 0);
        due("hold: not yet", x.hold(0, true), 0);
        due("hold: again", x.hold(0, true), 1);
        due("hold: the other not", x.hold(1, false), 0);
        due("hold: no more", x.hold(0, false), 1);
        due("hold: not any more", x.hold(0, false), 0);
        int[] none = {-1, 2, Scenes.FAR, Scenes.DEEP};
        for (int track : none) {
            due("hold(" + track + ")", x.hold(track, true), -1);
        }
        due("hold: none", x.count(3), 0);
    }

    // Promise 5
    private static void crossPlaces() {
        TrackCrossings x = new TrackCrossings();
        // On y = 1 at x = 1/3 the second, which climbs by 3 while it goes 1 on, is at its share 2/3.
        x.track(-3, 1, 2, 1, 10, 40);
        x.track(-1, -3, 1, 3, 0, 7);
        long[][] want = {{1, 3}, {1, 1}, {30, 1}, {14, 3}, {2, 3}, {2, 3}, {Scenes.CROSS_NO, Scenes.CROSS_NO},
            {Scenes.CROSS_NO, Scenes.CROSS_NO}};
        for (int what = 0; what < 8; what++) {
            for (int part = 0; part < 2; part++) {
                due("cross(0, 1, " + what + ", " + part + ")", x.cross(0, 1, what, part), want[what][part]);
            }
        }
        due("cross(1, 0, 2, 0): time of the first named", x.cross(1, 0, 2, 0), 14);
        due("cross(1, 0, 3, 1)", x.cross(1, 0, 3, 1), 1);
        TrackCrossings y = new TrackCrossings();
        y.track(5, 5, -7, -7, 3, 9);
        y.track(-7, -7, -7, 3, 100, 102);
        due("an end on an end: x", y.cross(0, 1, 0, 0), -7);
        due("an end on an end: x below", y.cross(0, 1, 0, 1), 1);
        due("an end on an end: share of a", y.cross(0, 1, 4, 0), 1);
        due("an end on an end: share of b", y.cross(0, 1, 5, 0), 0);
        due("an end on an end: 0 is by 1", y.cross(0, 1, 5, 1), 1);
        due("an end on an end: time of a", y.cross(0, 1, 2, 0), 9);
        due("an end on an end: time of b", y.cross(0, 1, 3, 0), 100);
        y.track(-8, 0, 8, -1, 0, 1);
        due("below 0 is above the line", y.cross(0, 2, 0, 0), -8);
        due("and below it above 0", y.cross(0, 2, 0, 1), 17);
        due("y of a track that climbs", y.cross(0, 2, 1, 0), -8);
        due("y of a track that climbs, below", y.cross(0, 2, 1, 1), 17);
        due("y by the other track", y.cross(2, 0, 1, 0), -8);
        due("x by the other track", y.cross(2, 0, 0, 1), 17);
    }

    private static void crossHeights() {
        TrackCrossings x = Scenes.plus();
        x.read(0, 4, -3);
        due("cross: at an eighth one is needed", x.cross(0, 1, 6, 0), -3);
        due("cross: the other's is missing", x.cross(0, 1, 7, 0), Scenes.CROSS_NO);
        due("cross: named the other way", x.cross(1, 0, 7, 1), 1);
        x.hold(0, true);
        due("cross: of a track held out too", x.cross(0, 1, 6, 0), -3);
        // At x = 3 track 0 is at share 11/16: half way from reading 5 to 6.
        x.track(3, -8, 3, 8, 0, 1);
        x.read(0, 5, 10);
        due("cross: the right one is missing", x.cross(0, 2, 6, 0), Scenes.CROSS_NO);
        x.read(0, 6, 5);
        due("cross: half way above", x.cross(0, 2, 6, 0), 15);
        due("cross: half way below", x.cross(0, 2, 6, 1), 2);
        x.read(0, 5, Scenes.MISSING);
        due("cross: the left one is missing", x.cross(0, 2, 6, 1), Scenes.CROSS_NO);
        due("cross: places stand without heights", x.cross(0, 2, 4, 1), 16);
        x.track(8, -1, 8, 1, 0, 1);
        due("cross: the last reading is missing", x.cross(0, 3, 6, 0), Scenes.CROSS_NO);
        x.read(0, 8, 77);
        due("cross: the last reading alone", x.cross(0, 3, 6, 0), 77);
        x.track(-8, -1, -8, 1, 0, 1);
        x.read(0, 0, 66);
        due("cross: the first reading alone", x.cross(0, 4, 6, 0), 66);
    }

    private static void crossWrong() {
        TrackCrossings x = Scenes.plus();
        x.track(-8, 1, 8, 1, 0, 1);
        int[][] wrong = {{0, 0, 0, 0}, {0, 3, 0, 0}, {3, 0, 0, 0}, {-1, 0, 0, 0}, {0, -1, 0, 0}, {0, 1, -1, 0},
            {0, 1, 8, 0}, {0, 1, 0, -1}, {0, 1, 0, 2}, {Scenes.FAR, Scenes.DEEP, 0, 0},
            {0, 1, Scenes.DEEP, Scenes.FAR}, {0, 2, 8, 0},
            {0, 2, 0, 2}};
        for (int[] w : wrong) {
            due("cross(" + w[0] + ", " + w[1] + ", " + w[2] + ", " + w[3] + ")", x.cross(w[0], w[1], w[2], w[3]),
                Scenes.CROSS_BAD);
        }
        due("cross: beside one another", x.cross(0, 2, 0, 0), Scenes.CROSS_NO);
    }

    // Promise 6
    private static void crossing() {
        TrackCrossings x = Scenes.plus();
        due("crosses: in the middle", x.crosses(0, 1), 1);
        due("crosses: the other way", x.crosses(1, 0), 1);
        x.track(0, 0, 9, 0, 0, 1);
        due("crosses: along one another", x.crosses(0, 2), 0);
        due("crosses: an end in the middle", x.crosses(1, 2), 1);
        x.track(9, 0, 20, 0, 0, 1);
        due("crosses: on one line, end to end", x.crosses(2, 3), 0);
        x.track(9, 0, 9, 5, 0, 1);
        due("crosses: end to end with a turn", x.crosses(3, 4), 1);
        due("crosses: the last end of one on the first of the other", x.crosses(2, 4), 1);
        due("crosses: the first on the last", x.crosses(4, 2), 1);
        x.track(1, 1, 5, 5, 0, 1);
        due("crosses: the lines, but not the track", x.crosses(1, 5), 0);
        due("crosses: nor of the other", x.crosses(5, 0), 0);
        x.track(8, 0, -8, 0, 0, 1);
        due("crosses: against one another", x.crosses(0, 6), 0);
        x.hold(0, true);
        due("crosses: held out", x.crosses(0, 1), 1);
        due("crosses(0, 0)", x.crosses(0, 0), -1);
        due("crosses(0, 7)", x.crosses(0, 7), -1);
        due("crosses(-1, 0)", x.crosses(-1, 0), -1);
        due("crosses(FAR, DEEP)", x.crosses(Scenes.FAR, Scenes.DEEP), -1);
    }

    // Promise 7
    private static void differences() {
        TrackCrossings x = Scenes.plus();
        due("difference: both missing", x.difference(0, 1), Scenes.CROSS_NO);
        x.read(0, 4, 5);
        due("difference: one missing", x.difference(0, 1), Scenes.CROSS_NO);
        x.read(1, 4, 7);
        due("difference: ten times", x.difference(0, 1), -20);
        due("difference(1, 0)", x.difference(1, 0), Scenes.CROSS_BAD);
        due("difference(0, 0)", x.difference(0, 0), Scenes.CROSS_BAD);
        due("difference(0, 2)", x.difference(0, 2), Scenes.CROSS_BAD);
        due("difference(-1, 1)", x.difference(-1, 1), Scenes.CROSS_BAD);
        due("difference(DEEP, FAR)", x.difference(Scenes.DEEP, Scenes.FAR), Scenes.CROSS_BAD);
        x.hold(1, true);
        due("difference: held out", x.difference(0, 1), Scenes.CROSS_NO);
        x.hold(1, false);
        due("difference: no more held out", x.difference(0, 1), -20);
        // Share 2/3 of a is 1/3 on from reading 5 to 6, so 1 up is a third: 10/3 is 3, -10/3 is -4.
        TrackCrossings y = new TrackCrossings();
        y.track(-4, 0, 2, 0, 0, 1);
        y.track(0, -1, 0, 1, 0, 1);
        y.read(1, 4, 0);
        y.read(0, 5, 0);
        y.read(0, 6, 1);
        due("difference: rounded down", y.difference(0, 1), 3);
        y.read(0, 6, -1);
        due("difference: down below 0 too", y.difference(0, 1), -4);
        y.track(0, 2, 2, 2, 0, 1);
        due("difference: no crossing", y.difference(1, 2), Scenes.CROSS_NO);
        y.read(0, 5, 10000);
        y.read(0, 6, 10000);
        y.read(1, 4, -10000);
        due("difference: the largest", y.difference(0, 1), 200000);
    }

    // Promise 8
    private static void nets() {
        TrackCrossings x = Scenes.triangle(1, 2, 3);
        due("net: differences", x.net(0), 3);
        due("net: nets", x.net(1), 1);
        due("net: alone", x.net(2), 0);
        x.track(50, 50, 60, 60, 0, 1);
        x.track(50, 60, 60, 50, 0, 1);
        due("net: they cross, but without heights", x.net(2), 2);
        x.read(3, 4, 0);
        x.read(4, 4, 0);
        due("net: a difference of 0 is one", x.net(0), 4);
        due("net: two nets", x.net(1), 2);
        due("net: none alone", x.net(2), 0);
        x.hold(0, true);
        due("net: one held out", x.net(0), 2);
        due("net: two stay", x.net(1), 2);
        due("net: held out is alone", x.net(2), 1);
        x.hold(1, true);
        due("net: the third is alone then", x.net(2), 3);
        due("net: one net", x.net(1), 1);
        x.hold(0, false);
        x.hold(1, false);
        x.hold(3, true);
        due("net: as before", x.net(0), 3);
        due("net(-1)", x.net(-1), -1);
        due("net(3)", x.net(3), -1);
        due("net(FAR)", x.net(Scenes.FAR), -1);
        due("net(DEEP)", x.net(Scenes.DEEP), -1);
    }

    // Promise 9
    private static void offs() {
        TrackCrossings x = Scenes.plus();
        due("off: none told", x.off(0, 0), 0);
        due("off: 0 is by 1", x.off(0, 1), 1);
        Scenes.fill(x, 0, 1);
        Scenes.fill(x, 1, 0);
        due("off: half of 10", x.off(0, 0), 5);
        due("off: the other half", x.off(1, 0), -5);
        due("off: by 1", x.off(1, 1), 1);
        x.hold(0, true);
        due("off: held out", x.off(0, 0), 0);
        due("off: alone", x.off(1, 0), 0);
        x.hold(0, false);
        // Only 0 with 2 and 1 with 2 now: a chain of differences 10 of 0, 1 and -20 of 0, 2.
        TrackCrossings y = new TrackCrossings();
        y.track(-8, 0, 8, 0, 0, 1);
        y.track(-1, -1, -1, 1, 0, 1);
        y.track(1, -1, 1, 1, 0, 1);
        Scenes.fill(y, 0, 0);
        Scenes.fill(y, 1, -1);
        Scenes.fill(y, 2, 2);
        due("off: of a chain, the middle", y.off(0, 0), -10);
        due("off: of a chain, the middle, below", y.off(0, 1), 3);
        due("off: of a chain, the first end", y.off(1, 0), -40);
        due("off: of a chain, the first end, below", y.off(1, 1), 3);
        due("off: of a chain, the last end", y.off(2, 0), 50);
        due("off: of a chain, the last end, below", y.off(2, 1), 3);
        int[][] wrong = {{3, 0}, {-1, 0}, {0, 2}, {0, -1}, {Scenes.FAR, 0}, {Scenes.DEEP, 1}, {0, Scenes.FAR}};
        for (int[] w : wrong) {
            due("off(" + w[0] + ", " + w[1] + ")", y.off(w[0], w[1]), Scenes.WIDE_BAD);
        }
    }

    // Promises 10 and 11
    private static void squares() {
        TrackCrossings x = Scenes.triangle(0, 10, 20);
        due("before: all that differ", x.before(), 100 * 100 + 100 * 100 + 200 * 200);
        due("behind: all closes", x.behind(), 0);
        // Track 0 meets 1 at share 1/4 and 2 at share 3/4: 1 more at the one alone opens the loop by 10.
        x.read(0, 2, 1);
        due("before: with a loop open", x.before(), 90 * 90 + 100 * 100 + 200 * 200);
        due("behind: a third of the square, down", x.behind(), 33);
        x.hold(2, true);
        due("before: one held out", x.before(), 8100);
        due("behind: one held out", x.behind(), 0);
        x.hold(1, true);
        due("before: all held out but one", x.before(), 0);
    }

    /** Two loops, each open by 10: 100/3 and 100/3 make 66, rounded once. */
    private static void squaresOfSeveralNets() {
        TrackCrossings x = Scenes.triangle(0, 10, 20);
        x.read(0, 2, 1);
        x.track(42, 50, 58, 50, 0, 1);
        x.track(42, 46, 58, 62, 0, 1);
        x.track(46, 58, 62, 42, 0, 1);
        Scenes.fill(x, 3, 0);
        Scenes.fill(x, 4, 0);
        Scenes.fill(x, 5, 0);
        due("behind: the second closes", x.behind(), 33);
        x.read(3, 2, 1);
        due("net: two", x.net(1), 2);
        due("before: of both", x.before(), 8100 + 10000 + 40000 + 100);
        due("behind: of both, rounded once", x.behind(), 66);
        x.read(3, 2, 2);
        due("behind: 100/3 and 400/3", x.behind(), 166);
    }

    // Promise 12
    private static void loops() {
        TrackCrossings x = Scenes.triangle(3, 1, -4);
        due("loop: closes", x.loop(0, 1, 2), 0);
        x.read(0, 2, 5);
        due("loop: of the first", x.loop(0, 1, 2), 20);
        x.read(0, 6, 10);
        due("loop: less the last", x.loop(0, 1, 2), -50);
        x.read(1, 4, 0);
        x.read(1, 5, 0);
        x.read(1, 6, 0);
        due("loop: of the second", x.loop(0, 1, 2), -60);
        int[][] wrong = {{0, 2, 1}, {1, 0, 2}, {2, 1, 0}, {0, 0, 1}, {0, 1, 1}, {-1, 0, 1}, {0, 1, 3},
            {Scenes.DEEP, 0, Scenes.FAR}};
        for (int[] w : wrong) {
            due("loop(" + w[0] + ", " + w[1] + ", " + w[2] + ")", x.loop(w[0], w[1], w[2]), Scenes.CROSS_BAD);
        }
        for (int held = 0; held < 3; held++) {
            x.hold(held, true);
            due("loop: held out " + held, x.loop(0, 1, 2), Scenes.CROSS_NO);
            x.hold(held, false);
        }
        x.read(0, 6, Scenes.MISSING);
        due("loop: the last alone is missing", x.loop(0, 1, 2), Scenes.CROSS_NO);
        x.read(0, 6, 10);
        x.read(0, 2, Scenes.MISSING);
        due("loop: the first alone is missing", x.loop(0, 1, 2), Scenes.CROSS_NO);
        x.read(0, 2, 5);
        x.read(1, 4, Scenes.MISSING);
        due("loop: the second alone is missing", x.loop(0, 1, 2), Scenes.CROSS_NO);
        x.read(1, 4, 0);
        due("loop: back again", x.loop(0, 1, 2), -60);
        x.track(-8, 1, 8, 1, 0, 1);
        Scenes.fill(x, 3, 0);
        due("loop: two that do not cross", x.loop(0, 1, 3), Scenes.CROSS_NO);
    }

    // Promise 13
    private static void tones() {
        TrackCrossings x = new TrackCrossings();
        int[] wrong = {0, -1, 1000001, Scenes.FAR, Scenes.DEEP};
        for (int p : wrong) {
            due("tone(" + p + ")", x.tone(p), -1);
        }
        due("tone: the shortest", x.tone(1), 0);
        due("tone: the longest", x.tone(1000000), 1);
        for (int t = 2; t < 6; t++) {
            due("tone: the same once more", x.tone(1), t);
        }
        due("tone: a seventh", x.tone(1), -3);
        due("tone: a bad seventh", x.tone(0), -1);
        due("tone: still six", x.count(2), 6);
    }

    // Promise 14
    private static void seenPeriods() {
        TrackCrossings x = new TrackCrossings();
        x.tone(4000);
        x.tone(1000000);
        x.tone(1);
        // 1/4 a day, every 7 days: 1/4 less 2/7 is -1/28.
        due("seen: below 0, by size", x.seen(0, 7000, 0), 28);
        due("seen: a whole is by 1", x.seen(0, 7000, 1), 1);
        due("seen: above 0", x.seen(0, 9000, 0), 36);
        due("seen: as it is", x.seen(0, 1000, 0), 4);
        due("seen: half way", x.seen(0, 6000, 0), 12);
        due("seen: as it is, up to half way", x.seen(0, 1999, 0), 4);
        due("seen: in lowest terms, above", x.seen(0, 4250, 0), 68);
        due("seen: in lowest terms, below", x.seen(0, 4250, 1), 1);
        due("seen: a fraction, above", x.seen(0, 4006, 0), 8012);
        due("seen: a fraction, below", x.seen(0, 4006, 1), 3);
        due("seen: 0, above", x.seen(0, 8000, 0), -4);
        due("seen: 0, below", x.seen(0, 8000, 1), -4);
        due("seen: always 0 at 1", x.seen(2, 777777, 0), -4);
        due("seen: the slowest", x.seen(1, 999999, 0), 999999000);
        due("seen: of the longest", x.seen(1, 1, 0), 1000);
        int[][] wrong = {{3, 1, 0}, {-1, 1, 0}, {0, 0, 0}, {0, 1000001, 0}, {0, -1, 0}, {0, 1, 2}, {0, 1, -1},
            {0, 8000, 2}, {Scenes.FAR, 1, 0}, {0, Scenes.DEEP, 0}};
        for (int[] w : wrong) {
            due("seen(" + w[0] + ", " + w[1] + ", " + w[2] + ")", x.seen(w[0], w[1], w[2]), -1);
        }
    }

    // Promise 15
    private static void toldApart() {
        TrackCrossings x = new TrackCrossings();
        x.tone(4000);
        x.tone(5000);
        x.tone(1000);
        // Every day they are as they are: 1/4 less 1/5 is 1/20.
        due("apart: just", x.apart(0, 1, 1000, 20), 1);
        due("apart: just not", x.apart(0, 1, 1000, 19), 0);
        due("apart: the other way", x.apart(1, 0, 1000, 20), 1);
        due("apart: one is 0", x.apart(0, 2, 1000, 4), 1);
        due("apart: one is 0, just not", x.apart(2, 0, 1000, 3), 0);
        due("apart: both are 0", x.apart(0, 2, 4000, 100000), 0);
        // Every 4.5 days: 1/4 less 2/9 is 1/36, 1/5 less 2/9 is -1/45: by size 1/180.
        due("apart: sizes, not signs", x.apart(0, 1, 4500, 179), 0);
        due("apart: sizes", x.apart(0, 1, 4500, 180), 1);
        x.tone(1000000);
        x.tone(999999);
        due("apart: large numbers", x.apart(3, 4, 500000, 100000), 0);
        due("apart: large numbers, one at 0", x.apart(3, 4, 1000000, 100000), 0);
        due("apart: large numbers, far apart", x.apart(3, 0, 1, 100000), 1);
        x.tone(300000);
        // 1/1500 and 0, but multiplied out both sides are too large for a long.
        due("apart: too large a product", x.apart(3, 5, 600000, 100000), 1);
        due("apart: too large a product, just", x.apart(3, 5, 600000, 1500), 1);
        due("apart: too large a product, just not", x.apart(3, 5, 600000, 1499), 0);
        int[][] wrong = {{0, 0, 1, 1}, {0, 6, 1, 1}, {6, 0, 1, 1}, {-1, 0, 1, 1}, {0, -1, 1, 1}, {0, 1, 0, 1},
            {0, 1, 1000001, 1}, {0, 1, 1, 0}, {0, 1, 1, 100001}, {0, 1, 1, -1}, {Scenes.DEEP, Scenes.FAR, 1, 1},
            {0, 1, Scenes.FAR, Scenes.DEEP}};
        for (int[] w : wrong) {
            due("apart(" + w[0] + ", " + w[1] + ", " + w[2] + ", " + w[3] + ")",
                x.apart(w[0], w[1], w[2], w[3]), -1);
        }
    }

    // Promise 16
    private static void boxes() {
        TrackCrossings x = new TrackCrossings();
        // Readings at x = -4, -3, .. 4, y = x / 2.
        x.track(-4, -2, 4, 2, 0, 1);
        for (int i = 0; i <= 8; i++) {
            x.read(0, i, i + 1);
        }
        due("box: from 0 on", x.box(2, 0, 0, 0), 2);
        due("box: their heights", x.box(2, 0, 0, 1), 110);
        due("box: below 0", x.box(2, -1, -1, 0), 2);
        due("box: below 0, heights", x.box(2, -1, -1, 1), 70);
        due("box: the edge is in the next", x.box(4, 1, 0, 0), 1);
        due("box: a half is in the box", x.box(1, 1, 0, 0), 1);
        due("box: a half below 0", x.box(1, -1, -1, 1), 40);
        due("box: empty", x.box(1, 0, 1, 0), 0);
        due("box: empty, sum", x.box(1, 100, -100, 1), 0);
        x.read(0, 4, Scenes.MISSING);
        due("box: one missing", x.box(2, 0, 0, 0), 1);
        x.hold(0, true);
        due("box: held out", x.box(2, 0, 0, 0), 0);
        due("box: held out, sum", x.box(2, 0, 0, 1), 0);
        x.track(99, 99, 100, 100, 0, 1);
        x.read(1, 8, -10000);
        due("box: the last corner", x.box(1, 100, 100, 1), -100000);
        x.track(-100, -100, -99, -100, 0, 1);
        x.read(2, 0, 5);
        x.read(2, 1, 5);
        due("box: the first corner", x.box(1, -100, -100, 0), 2);
        int[][] wrong = {{0, 0, 0, 0}, {51, 0, 0, 0}, {-1, 0, 0, 0}, {1, 101, 0, 0}, {1, -101, 0, 0},
            {1, 0, 101, 0}, {1, 0, -101, 0}, {1, 0, 0, 2}, {1, 0, 0, -1}, {Scenes.DEEP, 0, 0, 0},
            {Scenes.FAR, Scenes.FAR, Scenes.FAR, Scenes.FAR}};
        for (int[] w : wrong) {
            due("box(" + w[0] + ", " + w[1] + ", " + w[2] + ", " + w[3] + ")", x.box(w[0], w[1], w[2], w[3]),
                Scenes.WIDE_BAD);
        }
    }

    private static void boxesLessOff() {
        TrackCrossings x = Scenes.plus();
        // The difference is 10/4 rounded down to 2, and then 5: OFF is 5/2 and -5/2.
        x.track(1, -8, 1, 8, 0, 1);
        x.read(0, 4, 0);
        x.read(0, 5, 1);
        x.read(2, 4, 0);
        due("box: the difference", x.difference(0, 2), 5);
        due("box: of a half", x.off(2, 1), 2);
        due("box: OFF down, each", x.box(50, 0, 0, 1), -2 + (10 - 2) + 3);
        due("box: how many", x.box(50, 0, 0, 0), 3);
        x.hold(2, true);
        due("box: one held out", x.box(50, 0, 0, 1), 10);
    }

    // Promise 17
    private static void counts() {
        TrackCrossings x = Scenes.plus();
        due("count: tracks", x.count(0), 2);
        due("count: readings", x.count(1), 0);
        Scenes.fill(x, 1, 0);
        x.read(0, 3, -10000);
        x.read(1, 3, Scenes.MISSING);
        due("count: readings told", x.count(1), 9);
        x.tone(5);
        due("count: tones", x.count(2), 1);
        x.hold(1, true);
        due("count: held out", x.count(3), 1);
        due("count: readings of those held out too", x.count(1), 9);
        x.hold(0, true);
        due("count: both held out", x.count(3), 2);
        x.hold(1, false);
        due("count: one again", x.count(3), 1);
        int[] wrong = {-1, 4, Scenes.FAR, Scenes.DEEP};
        for (int what : wrong) {
            due("count(" + what + ")", x.count(what), -1);
        }
    }
}
