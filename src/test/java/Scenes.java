/** Numbers of the document and maps that several tests start from. */
final class Scenes {
    static final int MISSING = 200000;
    static final int READ_BAD = 300000;
    static final int CROSS_BAD = -1000000001;
    static final int CROSS_NO = -1000000002;
    static final long WIDE_BAD = -1000000000000000000L;
    static final int FAR = Integer.MAX_VALUE;
    static final int DEEP = Integer.MIN_VALUE;

    /** Eight tracks across the map that all cross one another. */
    static final int[][] FAN = {{-100, -100, 100, 97}, {-100, -71, 100, 68}, {-100, -40, 100, 43},
        {-100, -13, 100, 12}, {-100, 18, 100, -17}, {-100, 47, 100, -44}, {-100, 73, 100, -76},
        {-100, 100, 100, -99}};

    private Scenes() {
    }

    static void fill(TrackCrossings x, int track, int height) {
        for (int i = 0; i <= 8; i++) {
            x.read(track, i, height);
        }
    }

    /** A cross of two tracks that meet at 0, 0 in the middle of both. */
    static TrackCrossings plus() {
        TrackCrossings x = new TrackCrossings();
        x.track(-8, 0, 8, 0, 0, 16);
        x.track(0, -8, 0, 8, 100, 116);
        return x;
    }

    /**
     * Three tracks with heights h0, h1, h2, each crossing both others at a reading: 0 and 1 at the
     * reading 2 of both, 0 and 2 at the readings 6 and 4, 1 and 2 at the readings 4 and 2.
     */
    static TrackCrossings triangle(int h0, int h1, int h2) {
        TrackCrossings x = new TrackCrossings();
        x.track(-8, 0, 8, 0, 0, 1);
        x.track(-8, -4, 8, 12, 0, 1);
        x.track(-4, 8, 12, -8, 0, 1);
        fill(x, 0, h0);
        fill(x, 1, h1);
        fill(x, 2, h2);
        return x;
    }

    static TrackCrossings fan() {
        TrackCrossings x = new TrackCrossings();
        for (int[] e : FAN) {
            x.track(e[0], e[1], e[2], e[3], 0, 1000000);
        }
        return x;
    }
}
