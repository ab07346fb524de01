/** Each sentence of the document on an edge of tracks, readings and holding (promises 1 to 4, 17). */
public final class EdgesOfTracksTest {
    private static final int[] NO_PLACES = {-101, 101, -1000, 1000, 1 << 29, Scenes.FAR, Scenes.DEEP};
    private static final int[] NO_TIMES = {-1, 1000001, -1000000, 2000000, Scenes.FAR, Scenes.DEEP};

    private static final Checks CHECKS = new Checks("EdgesOfTracksTest");

    public static void main(String[] args) {
        nothingAtFirst();
        nothingToAskAtFirst();
        asTheyCome();
        eachPlace();
        placesAreKept();
        times();
        timesAreKept();
        timeRises();
        notOnePlace();
        fullOfTracks();
        badBeforeFull();
        readingsZeroToEight();
        heights();
        missingAtFirst();
        missingAgain();
        readOfNoTrack();
        heldOut();
        holdOfNoTrack();
        countsAtTheirMost();
        countOfNothingTold();
        lastOfAllCalls();
        CHECKS.end();
    }

    private static void due(String call, long got, long want) {
        CHECKS.due(call, got, want);
    }

    private static void nothingAtFirst() {
        CHECKS.sentence("1: No TRACKS, TONES");
        TrackCrossings x = new TrackCrossings();
        for (int what = 0; what <= 3; what++) {
            due("count(" + what + ")", x.count(what), 0);
        }
        for (int what = 0; what <= 2; what++) {
            due("net(" + what + ")", x.net(what), 0);
        }
        due("before()", x.before(), 0);
        due("behind()", x.behind(), 0);
        due("box(50, 0, 0, 0)", x.box(50, 0, 0, 0), 0);
        due("box(50, 0, 0, 1)", x.box(50, 0, 0, 1), 0);
        TrackCrossings other = new TrackCrossings();
        other.track(0, 0, 1, 1, 0, 1);
        other.tone(1);
        due("count(0) behind a track of another object", x.count(0), 0);
        due("count(2) behind a tone of another object", x.count(2), 0);
        due("count(0) of an object made later", new TrackCrossings().count(0), 0);
    }

    private static void nothingToAskAtFirst() {
        CHECKS.sentence("BAD: there is no such thing (of a new object)");
        TrackCrossings x = new TrackCrossings();
        due("read(0, 0, 0)", x.read(0, 0, 0), Scenes.READ_BAD);
        due("hold(0, false)", x.hold(0, false), -1);
        due("cross(0, 1, 0, 0)", x.cross(0, 1, 0, 0), Scenes.CROSS_BAD);
        due("crosses(0, 1)", x.crosses(0, 1), -1);
        due("difference(0, 1)", x.difference(0, 1), Scenes.CROSS_BAD);
        due("off(0, 0)", x.off(0, 0), Scenes.WIDE_BAD);
        due("loop(0, 1, 2)", x.loop(0, 1, 2), Scenes.CROSS_BAD);
        due("seen(0, 1, 0)", x.seen(0, 1, 0), -1);
        due("apart(0, 1, 1, 1)", x.apart(0, 1, 1, 1), -1);
    }

    private static void asTheyCome() {
        CHECKS.sentence("2: A TRACK: its number (TRACKS 0 to 7 as they come)");
        TrackCrossings x = new TrackCrossings();
        for (int t = 0; t < 8; t++) {
            due("track, refused", x.track(0, 0, 0, 0, 0, 1), -1);
            due("track " + t, x.track(t, 0, 0, 9, 0, 1), t);
            due("count(0)", x.count(0), t + 1);
        }
    }

    private static int trackWithPlace(TrackCrossings x, int which, int place) {
        int[] places = {5, 6, 7, 8};
        places[which] = place;
        return x.track(places[0], places[1], places[2], places[3], 0, 1);
    }

    private static void eachPlace() {
        CHECKS.sentence("x0, y0 (each -100 to 100) .. to x1, y1");
        for (int which = 0; which < 4; which++) {
            TrackCrossings x = new TrackCrossings();
            for (int place : NO_PLACES) {
                due("track with place " + which + " at " + place, trackWithPlace(x, which, place), -1);
            }
            due("count(0)", x.count(0), 0);
            due("track with place " + which + " at -100", trackWithPlace(x, which, -100), 0);
            due("track with place " + which + " at 100", trackWithPlace(x, which, 100), 1);
            due("track with place " + which + " at 0", trackWithPlace(x, which, 0), 2);
        }
    }

    private static void placesAreKept() {
        CHECKS.sentence("from x0, y0 .. to x1, y1 (at the edges of the map)");
        TrackCrossings x = new TrackCrossings();
        x.track(-100, 100, 100, -100, 0, 1);
        x.read(0, 0, 1);
        due("box(1, -100, 100, 1) at the start", x.box(1, -100, 100, 1), 10);
        due("box(1, 100, -100, 0) at the start", x.box(1, 100, -100, 0), 0);
        x.read(0, 8, 2);
        due("box(1, 100, -100, 1) at the end", x.box(1, 100, -100, 1), 20);
        x.read(0, 4, 3);
        due("box(1, 0, 0, 1) half way", x.box(1, 0, 0, 1), 30);
    }

    private static void times() {
        CHECKS.sentence("times 0 to 1000000");
        TrackCrossings x = new TrackCrossings();
        for (int time : NO_TIMES) {
            due("track from time " + time + " to 500", x.track(0, 0, 1, 1, time, 500), -1);
            due("track from time 500 to " + time, x.track(0, 0, 1, 1, 500, time), -1);
        }
        due("track from one such time to another", x.track(0, 0, 1, 1, 1000001, 1000002), -1);
        due("track from below 0 to 0", x.track(0, 0, 1, 1, -1, 0), -1);
        due("track from the last time on", x.track(0, 0, 1, 1, 1000000, 1000001), -1);
        due("track over all times", x.track(0, 0, 1, 1, 0, 1000000), 0);
        due("track over the first times", x.track(0, 0, 1, 1, 0, 1), 1);
        due("track over the last times", x.track(0, 0, 1, 1, 999999, 1000000), 2);
    }

    private static void timesAreKept() {
        CHECKS.sentence("at time t0 .. at t1 (at share 0 and 1, and straight between)");
        TrackCrossings x = new TrackCrossings();
        x.track(-8, 0, 8, 0, 0, 1000000);
        x.track(-8, -1, -8, 1, 0, 1);
        x.track(8, -1, 8, 1, 999999, 1000000);
        x.track(-7, -1, -7, 1, 0, 3);
        due("time at share 0", x.cross(0, 1, 2, 0), 0);
        due("time at share 0, below", x.cross(0, 1, 2, 1), 1);
        due("time at share 1", x.cross(0, 2, 2, 0), 1000000);
        due("time at share 1, below", x.cross(0, 2, 2, 1), 1);
        due("time at share 1/16", x.cross(0, 3, 2, 0), 62500);
        due("time of the other between the last two", x.cross(0, 2, 3, 0), 1999999);
        due("time of the other, below", x.cross(0, 2, 3, 1), 2);
    }

    private static void timeRises() {
        CHECKS.sentence("t1 above t0");
        TrackCrossings x = new TrackCrossings();
        int[][] wrong = {{0, 0}, {500, 500}, {1000000, 1000000}, {500, 499}, {1, 0}, {1000000, 999999},
            {1000000, 0}, {Scenes.DEEP, Scenes.FAR}, {Scenes.FAR, Scenes.DEEP}, {Scenes.DEEP, Scenes.DEEP}};
        for (int[] w : wrong) {
            due("track from time " + w[0] + " to " + w[1], x.track(0, 0, 1, 1, w[0], w[1]), -1);
        }
        due("track with one time more", x.track(0, 0, 1, 1, 500, 501), 0);
    }

    private static void notOnePlace() {
        CHECKS.sentence("the ends are not one place");
        TrackCrossings x = new TrackCrossings();
        int[][] places = {{0, 0}, {3, 4}, {4, 4}, {-100, 100}, {100, 100}, {-100, -100}};
        for (int[] p : places) {
            due("track from " + p[0] + ", " + p[1] + " to itself", x.track(p[0], p[1], p[0], p[1], 0, 1), -1);
        }
        due("track along x by 1", x.track(3, 4, 4, 4, 0, 1), 0);
        due("track along y by 1", x.track(3, 4, 3, 3, 0, 1), 1);
        due("track to the place with x and y changed", x.track(3, 4, 4, 3, 0, 1), 2);
        due("track with x0 as y1 alone", x.track(3, 4, 5, 3, 0, 1), 3);
    }

    private static void fullOfTracks() {
        CHECKS.sentence("2: FULL: 8");
        TrackCrossings x = new TrackCrossings();
        for (int t = 0; t < 8; t++) {
            due("track " + t, x.track(0, t, 9, t, t, t + 1), t);
        }
        due("a ninth", x.track(0, 0, 1, 1, 0, 1), -3);
        due("a tenth", x.track(0, 0, 9, 1, 0, 1), -3);
        due("count(0)", x.count(0), 8);
        due("the last is there", x.hold(7, false), 0);
        due("there is none behind", x.hold(8, false), -1);
    }

    private static void badBeforeFull() {
        CHECKS.sentence("Of several the first (of BAD and FULL: track)");
        TrackCrossings x = new TrackCrossings();
        for (int t = 0; t < 8; t++) {
            x.track(0, t, 9, t, t, t + 1);
        }
        due("a ninth off the map", x.track(101, 0, 1, 1, 0, 1), -1);
        due("a ninth too early", x.track(0, 0, 1, 1, -1, 1), -1);
        due("a ninth without time", x.track(0, 0, 1, 1, 1, 1), -1);
        due("a ninth of one place", x.track(1, 1, 1, 1, 0, 1), -1);
    }

    private static void readingsZeroToEight() {
        CHECKS.sentence("READINGS 0 to 8");
        TrackCrossings x = Scenes.plus();
        int[] none = {-1, 9, -8, 16, Scenes.FAR, Scenes.DEEP};
        for (int i : none) {
            due("read(0, " + i + ", 5)", x.read(0, i, 5), Scenes.READ_BAD);
        }
        due("count(1)", x.count(1), 0);
        for (int i = 0; i <= 8; i++) {
            due("read(0, " + i + ", i)", x.read(0, i, i), Scenes.MISSING);
        }
        for (int i = 0; i <= 8; i++) {
            due("read(0, " + i + ", 0) again", x.read(0, i, 0), i);
        }
    }

    private static void heights() {
        CHECKS.sentence("a HEIGHT (-10000 to 10000)");
        TrackCrossings x = Scenes.plus();
        int[] none = {10001, -10001, 199999, 200001, -200000, 300000, -1000000, Scenes.FAR, Scenes.DEEP};
        for (int height : none) {
            due("read(0, 4, " + height + ")", x.read(0, 4, height), Scenes.READ_BAD);
        }
        due("read: nothing is told yet", x.read(0, 4, 10000), Scenes.MISSING);
        due("read: the highest stands", x.read(0, 4, -10000), 10000);
        due("read: the lowest stands", x.read(0, 4, 0), -10000);
        due("read: 0 stands", x.read(0, 4, -1), 0);
        due("read: -1 is a height, not BAD", x.read(0, 4, 10001), Scenes.READ_BAD);
        due("read: -1 stands behind a refused one", x.read(0, 4, 0), -1);
    }

    private static void missingAtFirst() {
        CHECKS.sentence("MISSING (at first)");
        TrackCrossings x = new TrackCrossings();
        for (int t = 0; t < 8; t++) {
            x.track(0, t, 9, t, t, t + 1);
            for (int i = 0; i <= 8; i++) {
                due("read(" + t + ", " + i + ", 7)", x.read(t, i, 7), 200000);
            }
        }
    }

    private static void missingAgain() {
        CHECKS.sentence("3: READING i of a TRACK is a HEIGHT (200000: MISSING): what it was (200000)");
        TrackCrossings x = Scenes.plus();
        due("MISSING stays", x.read(0, 4, 200000), 200000);
        due("count(1)", x.count(1), 0);
        due("a HEIGHT", x.read(0, 4, 5), 200000);
        due("count(1) with it", x.count(1), 1);
        due("the same HEIGHT", x.read(0, 4, 5), 5);
        due("MISSING again", x.read(0, 4, 200000), 5);
        due("count(1) without it", x.count(1), 0);
        due("MISSING was", x.read(0, 4, 6), 200000);
        due("of the READING beside", x.read(0, 5, 6), 200000);
        due("of the other TRACK", x.read(1, 4, 6), 200000);
    }

    private static void readOfNoTrack() {
        CHECKS.sentence("3: BAD answers 300000 (no such TRACK)");
        TrackCrossings x = Scenes.plus();
        int[] none = {-1, 2, 7, 8, Scenes.FAR, Scenes.DEEP};
        for (int track : none) {
            due("read(" + track + ", 0, 5)", x.read(track, 0, 5), 300000);
            due("read(" + track + ", 0, 200000)", x.read(track, 0, 200000), 300000);
            due("read(" + track + ", 9, 10001)", x.read(track, 9, 10001), 300000);
        }
        due("count(1)", x.count(1), 0);
    }

    private static void heldOut() {
        CHECKS.sentence("4: A TRACK is HELD OUT, or not: what was (1, 0)");
        TrackCrossings x = Scenes.plus();
        due("at first it is not", x.hold(0, true), 0);
        due("then it is", x.hold(0, true), 1);
        due("and stays", x.hold(0, false), 1);
        due("till it is not", x.hold(0, false), 0);
        due("and stays so", x.hold(0, true), 0);
        due("the other is not", x.hold(1, false), 0);
        due("count(3)", x.count(3), 1);
    }

    private static void holdOfNoTrack() {
        CHECKS.sentence("4: BAD");
        TrackCrossings x = Scenes.plus();
        int[] none = {-1, 2, 7, 8, Scenes.FAR, Scenes.DEEP};
        for (int track : none) {
            due("hold(" + track + ", true)", x.hold(track, true), -1);
            due("hold(" + track + ", false)", x.hold(track, false), -1);
        }
        due("count(3)", x.count(3), 0);
        x.track(0, 0, 1, 1, 0, 1);
        due("a track made later is not held out", x.hold(2, false), 0);
    }

    private static void countsAtTheirMost() {
        CHECKS.sentence("17: How many: 0 TRACKS, 1 READINGS that are not MISSING, 2 TONES, 3 HELD OUT");
        TrackCrossings x = new TrackCrossings();
        for (int t = 0; t < 8; t++) {
            x.track(0, t, 9, t, t, t + 1);
            Scenes.fill(x, t, 0);
            x.hold(t, true);
            due("count(0)", x.count(0), t + 1);
            due("count(1), of those HELD OUT too", x.count(1), 9 * (t + 1));
            due("count(3)", x.count(3), t + 1);
        }
        for (int t = 0; t < 6; t++) {
            x.tone(t + 1);
            due("count(2)", x.count(2), t + 1);
        }
        x.track(0, 0, 1, 1, 0, 1);
        x.tone(1);
        due("count(0) behind a ninth", x.count(0), 8);
        due("count(2) behind a seventh", x.count(2), 6);
        for (int t = 0; t < 8; t++) {
            x.hold(t, false);
            x.read(t, t, Scenes.MISSING);
        }
        due("count(3) with none", x.count(3), 0);
        due("count(1) with one MISSING of each", x.count(1), 64);
    }

    private static void countOfNothingTold() {
        CHECKS.sentence("17: BAD");
        TrackCrossings x = Scenes.plus();
        int[] none = {-1, 4, 5, Scenes.FAR, Scenes.DEEP};
        for (int what : none) {
            due("count(" + what + ")", x.count(what), -1);
        }
    }

    private static void lastOfAllCalls() {
        CHECKS.sentence("An object is used for at most 512 calls");
        TrackCrossings x = Scenes.plus();
        for (int call = 2; call < 508; call++) {
            x.read(call % 2, 4, call);
        }
        due("call 509", x.difference(0, 1), 10 * (506 - 507));
        due("call 510", x.off(1, 0), 5);
        due("call 511", x.read(0, 4, 10000), 506);
        due("call 512", x.before(), (100000L - 5070) * (100000L - 5070));
    }
}
