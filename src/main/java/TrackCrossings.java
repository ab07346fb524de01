/**
 * Straight tracks over a map with heights read along them: where they cross, how far the heights
 * differ there, what each track is off by, tones seen slow, and boxes of the map.
 */
public final class TrackCrossings {
    public static final int BAD = -1, NO = -2, FULL = -3, NONE = -4;

    private static final int TRACKS = 8;
    private static final int EIGHTHS = 8;
    private static final int READINGS = EIGHTHS + 1;
    private static final int FARTHEST = 100;
    private static final int LATEST = 1000000;
    private static final int HIGHEST = 10000;
    private static final int MISSING = 200000;
    private static final int TONES = 6;
    private static final int LONGEST = 1000000;
    private static final int MOST_DAYS = 100000;
    private static final int WIDEST_BOX = 50;
    private static final int FARTHEST_BOX = 100;
    private static final int KINDS_OF_CROSSING_PARTS = 8;

    private static final int READ_BAD = 300000;
    private static final int CROSS_BAD = -1000000001;
    private static final int CROSS_NO = -1000000002;
    private static final long WIDE_BAD = -1000000000000000000L;

    /** Stands for a height that can not be told; no height times a crossing's divisor comes near. */
    private static final long NO_HEIGHT = -1000000000000000000L;

    private final Track[] tracks;
    private final Crossing crossing;
    private final Closing closing;
    private final Tones tones;
    private final Fraction fraction;
    private int trackCount;
    private boolean closingIsOld;

    public TrackCrossings() {
        tracks = new Track[TRACKS];
        for (int i = 0; i < TRACKS; i++) {
            tracks[i] = new Track();
        }
        crossing = new Crossing();
        closing = new Closing();
        tones = new Tones();
        fraction = new Fraction();
        trackCount = 0;
        closingIsOld = true;
    }

    public int track(int x0, int y0, int x1, int y1, int t0, int t1) {
        boolean onMap = isOnMap(x0) && isOnMap(y0) && isOnMap(x1) && isOnMap(y1);
        boolean inTime = isWithin(t0, 0, LATEST) && isWithin(t1, 0, LATEST) && t0 < t1;
        boolean onePlace = x0 == x1 && y0 == y1;
        if (!onMap || !inTime || onePlace) {
            return BAD;
        }
        if (trackCount >= TRACKS) {
            return FULL;
        }
        Track added = tracks[trackCount];
        added.runFrom(x0, y0, t0);
        added.runTo(x1, y1, t1);
        trackCount++;
        closingIsOld = true;
        return trackCount - 1;
    }

    public int read(int track, int i, int height) {
        boolean isHeight = height == MISSING || isWithin(height, -HIGHEST, HIGHEST);
        if (!isTrack(track) || !isWithin(i, 0, EIGHTHS) || !isHeight) {
            return READ_BAD;
        }
        int was = tracks[track].heights[i];
        tracks[track].heights[i] = height;
        closingIsOld = true;
        return was;
    }

    public int hold(int track, boolean out) {
        if (!isTrack(track)) {
            return BAD;
        }
        boolean was = tracks[track].heldOut;
        tracks[track].heldOut = out;
        closingIsOld = true;
        return was ? 1 : 0;
    }

    public long cross(int a, int b, int what, int part) {
        boolean isKind = isWithin(what, 0, KINDS_OF_CROSSING_PARTS - 1);
        if (!areTwoTracks(a, b) || !isKind || !isPart(part)) {
            return CROSS_BAD;
        }
        crossing.find(tracks[a], tracks[b]);
        if (!crossing.isThere) {
            return CROSS_NO;
        }
        long above = crossing.aboveOf(what, tracks[a], tracks[b]);
        if (above == NO_HEIGHT) {
            return CROSS_NO;
        }
        fraction.become(above, crossing.below);
        return fraction.partOf(part);
    }

    public int crosses(int a, int b) {
        if (!areTwoTracks(a, b)) {
            return BAD;
        }
        crossing.find(tracks[a], tracks[b]);
        return crossing.isThere ? 1 : 0;
    }

    public int difference(int a, int b) {
        if (!areTwoTracks(a, b) || a > b) {
            return CROSS_BAD;
        }
        return crossing.differenceOf(tracks[a], tracks[b]);
    }

    public int net(int what) {
        bringClosingUpToDate();
        switch (what) {
            case 0:
                return closing.differenceCount;
            case 1:
                return closing.netCount;
            case 2:
                return closing.aloneCount;
            default:
                return BAD;
        }
    }

    public long off(int track, int part) {
        if (!isTrack(track) || !isPart(part)) {
            return WIDE_BAD;
        }
        bringClosingUpToDate();
        return closing.offs[track].partOf(part);
    }

    public long before() {
        bringClosingUpToDate();
        return closing.squares;
    }

    public long behind() {
        bringClosingUpToDate();
        return closing.squaresLeft();
    }

    public int loop(int a, int b, int c) {
        if (!isTrack(a) || !isTrack(b) || !isTrack(c) || a >= b || b >= c) {
            return CROSS_BAD;
        }
        int first = crossing.differenceOf(tracks[a], tracks[b]);
        int second = crossing.differenceOf(tracks[b], tracks[c]);
        int whole = crossing.differenceOf(tracks[a], tracks[c]);
        if (first == CROSS_NO || second == CROSS_NO || whole == CROSS_NO) {
            return CROSS_NO;
        }
        return first + second - whole;
    }

    public int tone(int p) {
        if (!isWithin(p, 1, LONGEST)) {
            return BAD;
        }
        if (tones.count >= TONES) {
            return FULL;
        }
        tones.periods[tones.count] = p;
        tones.count++;
        return tones.count - 1;
    }

    public long seen(int tone, int r, int part) {
        if (!tones.has(tone) || !isWithin(r, 1, LONGEST) || !isPart(part)) {
            return BAD;
        }
        long distance = tones.distance(tone, r);
        if (distance == 0) {
            return NONE;
        }
        fraction.become((long) tones.periods[tone] * r, 1000 * distance);
        return fraction.partOf(part);
    }

    public int apart(int tone, int other, int r, int y) {
        boolean areTwoTones = tones.has(tone) && tones.has(other) && tone != other;
        if (!areTwoTones || !isWithin(r, 1, LONGEST) || !isWithin(y, 1, MOST_DAYS)) {
            return BAD;
        }
        return tones.areToldApart(tone, other, r, y) ? 1 : 0;
    }

    public long box(int w, int i, int j, int what) {
        boolean isBox = isWithin(w, 1, WIDEST_BOX)
            && isWithin(i, -FARTHEST_BOX, FARTHEST_BOX) && isWithin(j, -FARTHEST_BOX, FARTHEST_BOX);
        if (!isBox || !isWithin(what, 0, 1)) {
            return WIDE_BAD;
        }
        bringClosingUpToDate();
        long many = 0;
        long sum = 0;
        for (int t = 0; t < trackCount; t++) {
            if (!tracks[t].heldOut) {
                long here = tracks[t].readingsIn(w, i, j);
                many += here;
                sum += 10 * tracks[t].heightsIn(w, i, j) - here * closing.offs[t].roundedDown();
            }
        }
        return what == 0 ? many : sum;
    }

    public int count(int what) {
        switch (what) {
            case 0:
                return trackCount;
            case 1:
                return countReadings();
            case 2:
                return tones.count;
            case 3:
                return countHeldOut();
            default:
                return BAD;
        }
    }

    private int countReadings() {
        int many = 0;
        for (int t = 0; t < trackCount; t++) {
            for (int i = 0; i < READINGS; i++) {
                if (tracks[t].heights[i] != MISSING) {
                    many++;
                }
            }
        }
        return many;
    }

    private int countHeldOut() {
        int many = 0;
        for (int t = 0; t < trackCount; t++) {
            if (tracks[t].heldOut) {
                many++;
            }
        }
        return many;
    }

    private void bringClosingUpToDate() {
        if (closingIsOld) {
            closing.close(tracks, trackCount, crossing);
            closingIsOld = false;
        }
    }

    private boolean isTrack(int number) {
        return number >= 0 && number < trackCount;
    }

    private boolean areTwoTracks(int a, int b) {
        return isTrack(a) && isTrack(b) && a != b;
    }

    private static boolean isPart(int part) {
        return part == 0 || part == 1;
    }

    private static boolean isOnMap(int place) {
        return isWithin(place, -FARTHEST, FARTHEST);
    }

    private static boolean isWithin(int number, int least, int most) {
        return number >= least && number <= most;
    }

    /** A straight track with its nine readings. */
    private static final class Track {
        int startX;
        int startY;
        int startTime;
        int stepX;
        int stepY;
        int stepTime;
        boolean heldOut;
        final int[] heights;

        Track() {
            heights = new int[READINGS];
            for (int i = 0; i < READINGS; i++) {
                heights[i] = MISSING;
            }
        }

        void runFrom(int x, int y, int time) {
            startX = x;
            startY = y;
            startTime = time;
        }

        void runTo(int x, int y, int time) {
            stepX = x - startX;
            stepY = y - startY;
            stepTime = time - startTime;
        }

        /** The height at the share above/below, times below; or NO_HEIGHT. */
        long heightTimesBelow(long above, long below) {
            if (below <= 0 || above < 0 || above > below) {
                return NO_HEIGHT;
            }
            int left = (int) (EIGHTHS * above / below);
            long rest = EIGHTHS * above - left * below;
            if (heights[left] == MISSING) {
                return NO_HEIGHT;
            }
            // At an eighth the reading beside it is not needed, and behind the last there is none.
            if (rest == 0 || left >= EIGHTHS) {
                return heights[left] * below;
            }
            if (heights[left + 1] == MISSING) {
                return NO_HEIGHT;
            }
            return heights[left] * below + (heights[left + 1] - heights[left]) * rest;
        }

        int readingsIn(int w, int i, int j) {
            int many = 0;
            for (int k = 0; k < READINGS; k++) {
                if (heights[k] != MISSING && isIn(k, w, i, j)) {
                    many++;
                }
            }
            return many;
        }

        long heightsIn(int w, int i, int j) {
            long sum = 0;
            for (int k = 0; k < READINGS; k++) {
                if (heights[k] != MISSING && isIn(k, w, i, j)) {
                    sum += heights[k];
                }
            }
            return sum;
        }

        /** In eighths, so that a place between whole numbers is not rounded before it is boxed. */
        private boolean isIn(int reading, int w, int i, int j) {
            if (w <= 0) {
                return false;
            }
            int x = EIGHTHS * startX + stepX * reading;
            int y = EIGHTHS * startY + stepY * reading;
            return Math.floorDiv(x, EIGHTHS * w) == i && Math.floorDiv(y, EIGHTHS * w) == j;
        }
    }

    /** The crossing of two tracks; all that is told of it is a fraction over one divisor. */
    private static final class Crossing {
        boolean isThere;
        long below;
        private long shareA;
        private long shareB;

        Crossing() {
            isThere = false;
            below = 1;
        }

        void find(Track a, Track b) {
            long turn = (long) a.stepX * b.stepY - (long) a.stepY * b.stepX;
            long side = turn < 0 ? -1 : 1;
            long apartX = b.startX - a.startX;
            long apartY = b.startY - a.startY;
            shareA = side * (apartX * b.stepY - apartY * b.stepX);
            shareB = side * (apartX * a.stepY - apartY * a.stepX);
            below = side * turn;
            isThere = below != 0 && shareA >= 0 && shareA <= below && shareB >= 0 && shareB <= below;
        }

        /** What is above the divisor in the answer to cross's 'what'; or NO_HEIGHT. */
        long aboveOf(int what, Track a, Track b) {
            switch (what) {
                case 0:
                    return a.startX * below + a.stepX * shareA;
                case 1:
                    return a.startY * below + a.stepY * shareA;
                case 2:
                    return a.startTime * below + a.stepTime * shareA;
                case 3:
                    return b.startTime * below + b.stepTime * shareB;
                case 4:
                    return shareA;
                case 5:
                    return shareB;
                case 6:
                    return a.heightTimesBelow(shareA, below);
                case 7:
                    return b.heightTimesBelow(shareB, below);
                default:
                    return NO_HEIGHT;
            }
        }

        /** The difference of a and b; CROSS_NO, if they have none. */
        int differenceOf(Track a, Track b) {
            if (a.heldOut || b.heldOut) {
                return CROSS_NO;
            }
            find(a, b);
            if (!isThere || below <= 0) {
                return CROSS_NO;
            }
            long heightA = a.heightTimesBelow(shareA, below);
            long heightB = b.heightTimesBelow(shareB, below);
            if (heightA == NO_HEIGHT || heightB == NO_HEIGHT) {
                return CROSS_NO;
            }
            return (int) Math.floorDiv(10 * (heightA - heightB), below);
        }
    }

    /** A fraction in lowest terms, what is below above 0. */
    private static final class Fraction {
        /** Euclid's way takes fewer steps than this for any two longs. */
        private static final int MOST_STEPS = 100;

        long above;
        long below;

        Fraction() {
            above = 0;
            below = 1;
        }

        void become(long newAbove, long newBelow) {
            long shared = greatestShared(newAbove, newBelow);
            if (newBelow == 0 || shared == 0) {
                above = 0;
                below = 1;
                return;
            }
            long divisor = newBelow < 0 ? -shared : shared;
            above = newAbove / divisor;
            below = newBelow / divisor;
        }

        long partOf(int part) {
            return part == 0 ? above : below;
        }

        long roundedDown() {
            return below > 0 ? Math.floorDiv(above, below) : 0;
        }

        private static long greatestShared(long one, long other) {
            long larger = one < 0 ? -one : one;
            long smaller = other < 0 ? -other : other;
            for (int step = 0; step < MOST_STEPS && smaller != 0; step++) {
                long rest = larger % smaller;
                larger = smaller;
                smaller = rest;
            }
            return larger;
        }
    }

    /**
     * What every track is off by. In a net of n tracks the last one is set to 0, which leaves a
     * whole-number system of n - 1 rows; then all are moved alike, so that their sum is 0.
     *
     * Everything fits a long: a divisor of a net counts its spanning trees (8^6 at most), a number
     * to be divided by it is at most that times all differences (28 times 200000), and a product
     * of two such on the way stays below 10^18.
     */
    private static final class Closing {
        final Fraction[] offs;
        int differenceCount;
        int netCount;
        int aloneCount;
        long squares;
        private final int[][] differences;
        private final int[] netOf;
        private final int[] members;
        private final long[][] rows;
        private final long[] solution;
        private long closedAbove;
        private long closedBelow;

        Closing() {
            offs = new Fraction[TRACKS];
            for (int t = 0; t < TRACKS; t++) {
                offs[t] = new Fraction();
            }
            differences = new int[TRACKS][TRACKS];
            netOf = new int[TRACKS];
            members = new int[TRACKS];
            rows = new long[TRACKS][TRACKS];
            solution = new long[TRACKS];
            closedAbove = 0;
            closedBelow = 1;
        }

        void close(Track[] tracks, int trackCount, Crossing crossing) {
            startAnew();
            for (int b = 0; b < trackCount; b++) {
                for (int a = 0; a < b; a++) {
                    takeDifference(a, b, crossing.differenceOf(tracks[a], tracks[b]));
                }
            }
            for (int t = 0; t < trackCount; t++) {
                // A net bears the number of its first track: so each is settled once.
                if (netOf[t] == t) {
                    settleNet(gatherMembers(t, trackCount));
                }
            }
        }

        /** The sum of squares that is left, rounded down once, over all nets together. */
        long squaresLeft() {
            if (closedBelow <= 0) {
                return 0;
            }
            return Math.floorDiv(squares * closedBelow - closedAbove, closedBelow);
        }

        private void startAnew() {
            differenceCount = 0;
            netCount = 0;
            aloneCount = 0;
            squares = 0;
            closedAbove = 0;
            closedBelow = 1;
            for (int t = 0; t < TRACKS; t++) {
                netOf[t] = t;
                offs[t].become(0, 1);
            }
        }

        private void takeDifference(int a, int b, int difference) {
            differences[a][b] = difference;
            if (difference != CROSS_NO) {
                differenceCount++;
                squares += (long) difference * difference;
                joinNets(netOf[a], netOf[b]);
            }
        }

        private void joinNets(int one, int other) {
            int kept = Math.min(one, other);
            int given = Math.max(one, other);
            for (int t = 0; t < TRACKS; t++) {
                if (netOf[t] == given) {
                    netOf[t] = kept;
                }
            }
        }

        /** Rising, so that of two members the one before has the lower number. */
        private int gatherMembers(int net, int trackCount) {
            int size = 0;
            for (int t = 0; t < trackCount; t++) {
                if (netOf[t] == net) {
                    members[size] = t;
                    size++;
                }
            }
            return size;
        }

        private void settleNet(int size) {
            if (size < 2) {
                aloneCount += size;
                return;
            }
            netCount++;
            fillRows(size);
            long divisor = solveRows(size - 1);
            if (divisor == 0) {
                return;
            }
            for (int m = 0; m < size - 1; m++) {
                solution[m] = rows[m][size - 1];
            }
            solution[size - 1] = 0;
            tellOffs(size, divisor);
            addClosed(size, divisor);
        }

        private void fillRows(int size) {
            for (int r = 0; r < size; r++) {
                for (int c = 0; c < size; c++) {
                    rows[r][c] = 0;
                }
            }
            for (int q = 0; q < size; q++) {
                for (int p = 0; p < q; p++) {
                    int difference = differences[members[p]][members[q]];
                    if (difference != CROSS_NO) {
                        addToRows(p, q, difference, size - 1);
                    }
                }
            }
        }

        /** The column of the last member, which is set to 0, holds the right side. */
        private void addToRows(int p, int q, int difference, int right) {
            rows[p][p]++;
            rows[p][right] += difference;
            if (q < right) {
                rows[p][q]--;
                rows[q][p]--;
                rows[q][q]++;
                rows[q][right] -= difference;
            }
        }

        /** Bareiss' way: all stay whole numbers. Answers the divisor of all, 0 if there is none. */
        private long solveRows(int unknowns) {
            long divisor = 1;
            for (int k = 0; k < unknowns; k++) {
                long pivot = rows[k][k];
                if (pivot == 0) {
                    return 0;
                }
                for (int r = 0; r < unknowns; r++) {
                    if (r != k) {
                        clearRow(r, k, unknowns, divisor);
                    }
                }
                divisor = pivot;
            }
            return divisor;
        }

        private void clearRow(int r, int k, int right, long divisor) {
            if (divisor == 0) {
                return;
            }
            long pivot = rows[k][k];
            long factor = rows[r][k];
            for (int c = 0; c <= right; c++) {
                rows[r][c] = (pivot * rows[r][c] - factor * rows[k][c]) / divisor;
            }
        }

        private void tellOffs(int size, long divisor) {
            long sum = 0;
            for (int m = 0; m < size; m++) {
                sum += solution[m];
            }
            for (int m = 0; m < size; m++) {
                offs[members[m]].become(size * solution[m] - sum, size * divisor);
            }
        }

        /** By how much the sum of squares falls: each difference times what is taken off it. */
        private void addClosed(int size, long divisor) {
            long closed = 0;
            for (int q = 0; q < size; q++) {
                for (int p = 0; p < q; p++) {
                    int difference = differences[members[p]][members[q]];
                    if (difference != CROSS_NO) {
                        closed += difference * (solution[p] - solution[q]);
                    }
                }
            }
            closedAbove = closedAbove * divisor + closed * closedBelow;
            closedBelow *= divisor;
        }
    }

    /** Tones by their periods in thousandths of a day. */
    private static final class Tones {
        final int[] periods;
        int count;

        Tones() {
            periods = new int[TONES];
            count = 0;
        }

        boolean has(int tone) {
            return tone >= 0 && tone < count;
        }

        /** How far r is from the nearest multiple of the period; f is 1000 times it by (p r). */
        long distance(int tone, int r) {
            int period = periods[tone];
            if (period <= 0) {
                return 0;
            }
            int rest = r % period;
            return Math.min(rest, period - rest);
        }

        /** The one side is divided, not the other multiplied: that product would not fit a long. */
        boolean areToldApart(int tone, int other, int r, int y) {
            long one = distance(tone, r) * periods[other];
            long two = distance(other, r) * periods[tone];
            long days = 1000L * y;
            if (days <= 0) {
                return false;
            }
            long product = (long) periods[tone] * periods[other] * r;
            return Math.abs(one - two) >= -Math.floorDiv(-product, days);
        }
    }
}
