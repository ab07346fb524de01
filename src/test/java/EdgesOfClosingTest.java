/** Each sentence of the document on an edge of nets, OFF, BEFORE and BEHIND (promises 8 to 11). */
public final class EdgesOfClosingTest {
    private static final Checks CHECKS = new Checks("EdgesOfClosingTest");

    public static void main(String[] args) {
        noNets();
        mostDifferences();
        mostNets();
        oneBehindTheOther();
        twoNetsJoined();
        differenceOfNothing();
        tracksWithoutAny();
        netOfNothingTold();
        offWithoutAny();
        sumOfEachNet();
        sumOfAStar();
        offInLowestTerms();
        offOfNothingTold();
        heldOutInTheMiddle();
        allHeldOut();
        beforeOfNone();
        beforeAtItsMost();
        behindRoundedDown();
        behindOfSeveralNets();
        behindOfWhatCanNotClose();
        behindOfWhatClosesAtItsMost();
        asThingsStand();
        CHECKS.end();
    }

    private static void due(String call, long got, long want) {
        CHECKS.due(call, got, want);
    }

    private static void dueNets(String when, TrackCrossings x, int[] want) {
        for (int what = 0; what < 3; what++) {
            due("net(" + what + ") " + when, x.net(what), want[what]);
        }
    }

    private static void dueOff(String when, TrackCrossings x, int track, long[] want) {
        due("off(" + track + ", 0) " + when, x.off(track, 0), want[0]);
        due("off(" + track + ", 1) " + when, x.off(track, 1), want[1]);
    }

    private static void dueOffs(String when, TrackCrossings x, long[] wholes) {
        for (int t = 0; t < wholes.length; t++) {
            dueOff(when, x, t, new long[] {wholes[t], 1});
        }
    }

    /** Eight tracks up and down, each ending where the next starts, 1 higher there than that one. */
    private static TrackCrossings chain() {
        TrackCrossings x = new TrackCrossings();
        for (int t = 0; t < 8; t++) {
            int low = t % 2 == 0 ? 0 : 20;
            x.track(-80 + 20 * t, low, -60 + 20 * t, 20 - low, 0, 1);
            x.read(t, 0, 0);
            x.read(t, 8, 1);
        }
        return x;
    }

    /** Four pairs of tracks; of each pair the first is higher by 1, 2, 3, 4. */
    private static TrackCrossings pairs() {
        TrackCrossings x = new TrackCrossings();
        for (int p = 0; p < 4; p++) {
            int middle = -75 + 50 * p;
            x.track(middle - 8, 0, middle + 8, 0, 0, 1);
            x.track(middle, -8, middle, 8, 0, 1);
            x.read(2 * p, 4, p + 1);
            x.read(2 * p + 1, 4, 0);
        }
        return x;
    }

    /** A triangle all at 0 whose first track is told from -9 to 9: it meets the second at 2/9 behind reading 2. */
    private static TrackCrossings fineTriangle() {
        TrackCrossings x = new TrackCrossings();
        x.track(-9, 0, 9, 0, 0, 1);
        x.track(-8, -4, 8, 12, 0, 1);
        x.track(-4, 8, 12, -8, 0, 1);
        for (int t = 0; t < 3; t++) {
            Scenes.fill(x, t, 0);
        }
        return x;
    }

    /** A loop that is open by all it can be: 200000, 200000 and -200000. */
    private static TrackCrossings openTriangle() {
        TrackCrossings x = Scenes.triangle(0, 0, 0);
        x.read(0, 2, 10000);
        x.read(1, 2, -10000);
        x.read(1, 4, 10000);
        x.read(2, 2, -10000);
        x.read(0, 6, -10000);
        x.read(2, 4, 10000);
        return x;
    }

    private static void noNets() {
        CHECKS.sentence("8: How many DIFFERENCES there are, NETS with two TRACKS or more (none)");
        TrackCrossings x = new TrackCrossings();
        dueNets("of nothing", x, new int[] {0, 0, 0});
        x.track(0, 0, 9, 0, 0, 1);
        Scenes.fill(x, 0, 5);
        dueNets("of one track: it is no NET of two", x, new int[] {0, 0, 1});
        x.track(0, 1, 9, 1, 0, 1);
        Scenes.fill(x, 1, 5);
        dueNets("of two beside one another", x, new int[] {0, 0, 2});
        x.track(4, -3, 4, 0, 0, 1);
        x.read(2, 8, 0);
        dueNets("of three, two joined", x, new int[] {1, 1, 1});
    }

    private static void mostDifferences() {
        CHECKS.sentence("8: How many DIFFERENCES there are (at most)");
        TrackCrossings x = Scenes.fan();
        for (int t = 0; t < 8; t++) {
            Scenes.fill(x, t, 0);
        }
        dueNets("of eight that all cross", x, new int[] {28, 1, 0});
    }

    private static void mostNets() {
        CHECKS.sentence("8: NETS with two TRACKS or more (at most)");
        TrackCrossings x = pairs();
        dueNets("of four pairs", x, new int[] {4, 4, 0});
        x.read(7, 4, Scenes.MISSING);
        dueNets("of three pairs", x, new int[] {3, 3, 2});
    }

    private static void oneBehindTheOther() {
        CHECKS.sentence("NET (TRACKS joined by DIFFERENCES, one behind the other)");
        TrackCrossings x = chain();
        dueNets("of a chain of eight", x, new int[] {7, 1, 0});
        // Told so that the joining track comes last.
        TrackCrossings y = new TrackCrossings();
        y.track(-10, -5, -10, 5, 0, 1);
        y.track(10, -5, 10, 5, 0, 1);
        y.track(0, -5, 0, 5, 0, 1);
        y.track(-20, 0, 20, 0, 0, 1);
        for (int t = 0; t < 3; t++) {
            y.read(t, 4, t);
        }
        dueNets("before the joining track is read", y, new int[] {0, 0, 4});
        Scenes.fill(y, 3, 0);
        dueNets("behind it", y, new int[] {3, 1, 0});
        dueOff("of the joining track", y, 3, new long[] {-15, 2});
    }

    private static void twoNetsJoined() {
        CHECKS.sentence("NET (TRACKS joined by DIFFERENCES, one behind the other: two NETS by one TRACK)");
        TrackCrossings x = new TrackCrossings();
        x.track(-60, 0, -40, 0, 0, 1);
        x.track(-50, -5, -50, 15, 0, 1);
        x.track(40, 0, 60, 0, 0, 1);
        x.track(50, -5, 50, 15, 0, 1);
        x.track(-60, 10, 60, 10, 0, 1);
        for (int t = 0; t < 4; t++) {
            Scenes.fill(x, t, t);
        }
        dueNets("before they are joined", x, new int[] {2, 2, 1});
        dueOffs("before they are joined", x, new long[] {-5, 5, -5, 5, 0});
        Scenes.fill(x, 4, 4);
        dueNets("joined", x, new int[] {4, 1, 0});
        dueOffs("joined", x, new long[] {-20, -10, 0, 10, 20});
        x.hold(4, true);
        dueNets("with the joining one HELD OUT", x, new int[] {2, 2, 1});
    }

    private static void differenceOfNothing() {
        CHECKS.sentence("TRACKS joined by DIFFERENCES (one of 0 joins, too)");
        TrackCrossings x = Scenes.plus();
        x.read(0, 4, 7);
        x.read(1, 4, 7);
        dueNets("of two alike", x, new int[] {1, 1, 0});
    }

    private static void tracksWithoutAny() {
        CHECKS.sentence("8: TRACKS without any DIFFERENCE (2)");
        TrackCrossings x = new TrackCrossings();
        for (int t = 0; t < 8; t++) {
            x.track(0, t, 9, t, 0, 1);
            Scenes.fill(x, t, t);
        }
        dueNets("of eight beside one another", x, new int[] {0, 0, 8});
        TrackCrossings y = Scenes.plus();
        dueNets("of two that are not read", y, new int[] {0, 0, 2});
        y.read(0, 4, 1);
        y.read(1, 4, 1);
        y.hold(1, true);
        dueNets("with one HELD OUT", y, new int[] {0, 0, 2});
    }

    private static void netOfNothingTold() {
        CHECKS.sentence("8: BAD");
        TrackCrossings x = chain();
        int[] none = {-1, 3, 4, Scenes.FAR, Scenes.DEEP};
        for (int what : none) {
            due("net(" + what + ")", x.net(what), -1);
        }
    }

    private static void offWithoutAny() {
        CHECKS.sentence("a TRACK without any: 0");
        TrackCrossings x = new TrackCrossings();
        x.track(-8, 0, 8, 0, 0, 1);
        dueOff("alone and not read", x, 0, new long[] {0, 1});
        Scenes.fill(x, 0, 10000);
        dueOff("alone", x, 0, new long[] {0, 1});
        x.track(0, -8, 0, 8, 0, 1);
        dueOff("beside one that is not read", x, 0, new long[] {0, 1});
        dueOff("not read", x, 1, new long[] {0, 1});
        Scenes.fill(x, 1, -10000);
        dueOff("with a DIFFERENCE", x, 0, new long[] {100000, 1});
        x.hold(0, true);
        dueOff("HELD OUT", x, 0, new long[] {0, 1});
        dueOff("beside one HELD OUT", x, 1, new long[] {0, 1});
    }

    private static void sumOfEachNet() {
        CHECKS.sentence("of each NET .. with a sum of 0");
        dueOffs("of four pairs", pairs(), new long[] {5, -5, 10, -10, 15, -15, 20, -20});
        dueOffs("of a chain", chain(), new long[] {35, 25, 15, 5, -5, -15, -25, -35});
    }

    private static void sumOfAStar() {
        CHECKS.sentence("the sum .. is least; with a sum of 0 (one joined to seven, at most and least)");
        TrackCrossings x = new TrackCrossings();
        x.track(-80, 0, 80, 0, 0, 1);
        Scenes.fill(x, 0, 10000);
        for (int t = 1; t < 8; t++) {
            x.track(-90 + 20 * t, -1, -90 + 20 * t, 1, 0, 1);
            x.read(t, 4, -10000);
        }
        dueNets("of a star", x, new int[] {7, 1, 0});
        dueOffs("of a star", x,
            new long[] {175000, -25000, -25000, -25000, -25000, -25000, -25000, -25000});
        x.read(7, 4, -9999);
        dueOff("with one nearer by 10", x, 0, new long[] {699995, 4});
        dueOff("of the one nearer", x, 7, new long[] {-99965, 4});
        dueOff("of another", x, 1, new long[] {-100005, 4});
    }

    private static void offInLowestTerms() {
        CHECKS.sentence("Fractions in lowest terms, what is below above 0 (off)");
        TrackCrossings x = Scenes.triangle(0, 0, 0);
        dueOffs("of a loop of nothing", x, new long[] {0, 0, 0});
        x.read(0, 2, 1);
        dueOff("with 10 more at one place", x, 0, new long[] {10, 3});
        dueOff("below 0", x, 1, new long[] {-10, 3});
        dueOff("0 is by 1", x, 2, new long[] {0, 1});
        x.read(0, 2, 3);
        dueOffs("30 by 3 is 10 by 1", x, new long[] {10, -10, 0});
        TrackCrossings y = Scenes.fan();
        for (int t = 0; t < 8; t++) {
            Scenes.fill(y, t, t == 0 ? 1 : 0);
        }
        dueOff("70 by 8", y, 0, new long[] {35, 4});
        dueOff("-10 by 8", y, 7, new long[] {-5, 4});
        TrackCrossings z = Scenes.plus();
        z.read(0, 4, -10000);
        z.read(1, 4, 10000);
        dueOffs("at its least", z, new long[] {-100000, 100000});
    }

    private static void offOfNothingTold() {
        CHECKS.sentence("9: BAD answers -1000000000000000000");
        TrackCrossings x = pairs();
        int[] noTracks = {-1, 8, 9, Scenes.FAR, Scenes.DEEP};
        for (int t : noTracks) {
            due("off(" + t + ", 0)", x.off(t, 0), Scenes.WIDE_BAD);
            due("off(" + t + ", 1)", x.off(t, 1), Scenes.WIDE_BAD);
        }
        int[] noParts = {-1, 2, Scenes.FAR, Scenes.DEEP};
        for (int part : noParts) {
            due("off(0, " + part + ")", x.off(0, part), Scenes.WIDE_BAD);
        }
        due("off(2, 0) of two tracks", Scenes.plus().off(2, 0), Scenes.WIDE_BAD);
    }

    private static void heldOutInTheMiddle() {
        CHECKS.sentence("A TRACK may be HELD OUT: it has no DIFFERENCES (and joins none)");
        TrackCrossings x = chain();
        x.hold(3, true);
        dueNets("with the fourth HELD OUT", x, new int[] {5, 2, 1});
        dueOffs("with the fourth HELD OUT", x, new long[] {10, 0, -10, 0, 15, 5, -5, -15});
        due("before() with the fourth HELD OUT", x.before(), 500);
        x.hold(0, true);
        dueNets("with the first, too", x, new int[] {4, 2, 2});
        dueOffs("with the first, too", x, new long[] {0, 5, -5, 0, 15, 5, -5, -15});
        x.hold(3, false);
        x.hold(0, false);
        dueNets("with none", x, new int[] {7, 1, 0});
        dueOffs("with none", x, new long[] {35, 25, 15, 5, -5, -15, -25, -35});
    }

    private static void allHeldOut() {
        CHECKS.sentence("A TRACK may be HELD OUT: it has no DIFFERENCES (all of them)");
        TrackCrossings x = openTriangle();
        for (int t = 0; t < 3; t++) {
            x.hold(t, true);
        }
        dueNets("with all HELD OUT", x, new int[] {0, 0, 3});
        dueOffs("with all HELD OUT", x, new long[] {0, 0, 0});
        due("before()", x.before(), 0);
        due("behind()", x.behind(), 0);
    }

    private static void beforeOfNone() {
        CHECKS.sentence("10: BEFORE: a whole (of no DIFFERENCES)");
        TrackCrossings x = new TrackCrossings();
        due("before() of nothing", x.before(), 0);
        x.track(-8, 0, 8, 0, 0, 1);
        Scenes.fill(x, 0, 10000);
        due("before() of one track", x.before(), 0);
        x.track(0, -8, 0, 8, 0, 1);
        due("before() beside one that is not read", x.before(), 0);
        x.read(1, 4, 10000);
        due("before() of a DIFFERENCE of 0", x.before(), 0);
        x.read(1, 4, 9999);
        due("before() of a DIFFERENCE of 10", x.before(), 100);
        x.read(0, 4, 9998);
        due("before() of a DIFFERENCE of -10", x.before(), 100);
    }

    private static void beforeAtItsMost() {
        CHECKS.sentence("BEFORE is the sum of squares of all DIFFERENCES (beyond an int)");
        due("before() of three at their most", openTriangle().before(), 3 * 40000000000L);
        TrackCrossings x = Scenes.fan();
        for (int t = 0; t < 8; t++) {
            Scenes.fill(x, t, t % 2 == 0 ? 10000 : -10000);
        }
        due("before() of sixteen at their most", x.before(), 16 * 40000000000L);
    }

    private static void behindRoundedDown() {
        CHECKS.sentence("11: BEHIND, rounded down");
        due("behind() of nothing", new TrackCrossings().behind(), 0);
        TrackCrossings x = fineTriangle();
        due("behind() of 0", x.behind(), 0);
        // The DIFFERENCE of 0 and 1 is (70 times reading 2 and 20 times reading 3) by 9, down; a third stays.
        int[][] cases = {{1, -3, 1, 0}, {0, 1, 4, 1}, {0, -1, 9, 3}, {1, -1, 25, 8}, {0, 3, 36, 12}, {0, 4, 64, 21}};
        for (int[] c : cases) {
            x.read(0, 2, c[0]);
            x.read(0, 3, c[1]);
            due("before() with " + c[0] + ", " + c[1], x.before(), c[2]);
            due("behind() with " + c[0] + ", " + c[1], x.behind(), c[3]);
        }
    }

    private static void behindOfSeveralNets() {
        CHECKS.sentence("BEHIND that least sum (over all NETS, rounded down once)");
        TrackCrossings x = Scenes.triangle(0, 0, 0);
        x.track(42, 50, 58, 50, 0, 1);
        x.track(42, 46, 58, 62, 0, 1);
        x.track(46, 58, 62, 42, 0, 1);
        for (int t = 3; t < 6; t++) {
            Scenes.fill(x, t, 0);
        }
        x.read(0, 2, 1);
        due("behind() of 100/3", x.behind(), 33);
        x.read(3, 2, 2);
        due("behind() of 100/3 and 400/3", x.behind(), 166);
        x.hold(0, true);
        due("behind() of 400/3", x.behind(), 133);
    }

    private static void behindOfWhatCanNotClose() {
        CHECKS.sentence("BEHIND that least sum (where nothing closes)");
        TrackCrossings x = openTriangle();
        dueOffs("of a loop open all round", x, new long[] {0, 0, 0});
        due("behind()", x.behind(), 3 * 40000000000L);
        due("before()", x.before(), x.behind());
    }

    private static void behindOfWhatClosesAtItsMost() {
        CHECKS.sentence("BEHIND that least sum (where all closes)");
        TrackCrossings x = Scenes.fan();
        for (int t = 0; t < 8; t++) {
            Scenes.fill(x, t, t % 2 == 0 ? 10000 : -10000);
        }
        due("behind() of eight with heights of their own", x.behind(), 0);
        dueOffs("of eight with heights of their own", x,
            new long[] {100000, -100000, 100000, -100000, 100000, -100000, 100000, -100000});
        due("behind() of a chain", chain().behind(), 0);
        due("behind() of pairs", pairs().behind(), 0);
    }

    private static void asThingsStand() {
        CHECKS.sentence("OFF, BEFORE, BEHIND, NETS (of what stands when they are asked for)");
        TrackCrossings x = Scenes.plus();
        due("before()", x.before(), 0);
        x.read(0, 4, 1);
        due("before() with one read", x.before(), 0);
        x.read(1, 4, 0);
        due("before() with both read", x.before(), 100);
        dueOffs("with both read", x, new long[] {5, -5});
        x.track(-8, 1, 8, -1, 0, 1);
        due("net(2) with a third", x.net(2), 1);
        x.read(2, 4, 0);
        dueNets("with a third read", x, new int[] {3, 1, 0});
        due("before() with a third read", x.before(), 200);
        x.hold(0, true);
        due("before() with the first HELD OUT", x.before(), 0);
        x.hold(0, false);
        due("before() with none HELD OUT", x.before(), 200);
        x.read(0, 4, Scenes.MISSING);
        dueNets("with the first MISSING", x, new int[] {1, 1, 1});
    }
}
