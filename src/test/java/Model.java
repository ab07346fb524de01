import java.util.ArrayList;
import java.util.Arrays;
import java.util.List;

/**
 * The document once more, in its own words and with fractions without a limit: nothing is kept
 * but what was told, and everything is worked out anew in each call.
 */
final class Model {
    private static final int MISSING = 200000;
    private static final int CROSS_BAD = -1000000001;
    private static final int CROSS_NO = -1000000002;
    private static final long WIDE_BAD = -1000000000000000000L;

    private static final class Line {
        int[] told;
        Integer[] heights = new Integer[9];
        boolean held;

        Ratio between(int from, int to, Ratio share) {
            return Ratio.of(from).plus(Ratio.of((long) to - from).times(share));
        }

        Ratio x(Ratio share) {
            return between(told[0], told[2], share);
        }

        Ratio y(Ratio share) {
            return between(told[1], told[3], share);
        }

        Ratio time(Ratio share) {
            return between(told[4], told[5], share);
        }

        Ratio height(Ratio share) {
            Ratio eighths = share.times(Ratio.of(8));
            int left = (int) eighths.floor();
            Ratio rest = eighths.less(Ratio.of(left));
            if (rest.isZero()) {
                return heights[left] == null ? null : Ratio.of(heights[left]);
            }
            if (heights[left] == null || heights[left + 1] == null) {
                return null;
            }
            return between(heights[left], heights[left + 1], rest);
        }
    }

    private final List<Line> lines = new ArrayList<>();
    private final List<Integer> tones = new ArrayList<>();

    private boolean isLine(int number) {
        return number >= 0 && number < lines.size();
    }

    private boolean isTone(int number) {
        return number >= 0 && number < tones.size();
    }

    private static boolean isPart(int part) {
        return part == 0 || part == 1;
    }

    int track(int x0, int y0, int x1, int y1, int t0, int t1) {
        for (int place : new int[] {x0, y0, x1, y1}) {
            if (place < -100 || place > 100) {
                return -1;
            }
        }
        if (t0 < 0 || t1 > 1000000 || t1 <= t0 || (x0 == x1 && y0 == y1)) {
            return -1;
        }
        if (lines.size() == 8) {
            return -3;
        }
        Line line = new Line();
        line.told = new int[] {x0, y0, x1, y1, t0, t1};
        lines.add(line);
        return lines.size() - 1;
    }

    int read(int track, int i, int height) {
        if (!isLine(track) || i < 0 || i > 8) {
            return 300000;
        }
        if (height != MISSING && (height < -10000 || height > 10000)) {
            return 300000;
        }
        Integer was = lines.get(track).heights[i];
        lines.get(track).heights[i] = height == MISSING ? null : Integer.valueOf(height);
        return was == null ? MISSING : was;
    }

    int hold(int track, boolean out) {
        if (!isLine(track)) {
            return -1;
        }
        boolean was = lines.get(track).held;
        lines.get(track).held = out;
        return was ? 1 : 0;
    }

    /** The shares of both, by Cramer's rule on the two equations of the common place; or null. */
    private Ratio[] shares(int a, int b) {
        int[] p = lines.get(a).told;
        int[] q = lines.get(b).told;
        // p0 + s (p2 - p0) = q0 + u (q2 - q0), and the same of y.
        long m11 = p[2] - p[0];
        long m12 = q[0] - q[2];
        long m21 = p[3] - p[1];
        long m22 = q[1] - q[3];
        long r1 = q[0] - p[0];
        long r2 = q[1] - p[1];
        long whole = m11 * m22 - m12 * m21;
        if (whole == 0) {
            return null;
        }
        Ratio s = Ratio.of(r1 * m22 - m12 * r2, whole);
        Ratio u = Ratio.of(m11 * r2 - r1 * m21, whole);
        return s.isWithin(0, 1) && u.isWithin(0, 1) ? new Ratio[] {s, u} : null;
    }

    long cross(int a, int b, int what, int part) {
        if (!isLine(a) || !isLine(b) || a == b || what < 0 || what > 7 || !isPart(part)) {
            return CROSS_BAD;
        }
        Ratio[] s = shares(a, b);
        if (s == null) {
            return CROSS_NO;
        }
        Line one = lines.get(a);
        Line two = lines.get(b);
        Ratio[] all = {one.x(s[0]), one.y(s[0]), one.time(s[0]), two.time(s[1]), s[0], s[1],
            one.height(s[0]), two.height(s[1])};
        if (!two.x(s[1]).equals(all[0]) || !two.y(s[1]).equals(all[1])) {
            throw new IllegalStateException("the model's crossing is not on both tracks");
        }
        return all[what] == null ? CROSS_NO : all[what].part(part);
    }

    int crosses(int a, int b) {
        if (!isLine(a) || !isLine(b) || a == b) {
            return -1;
        }
        return shares(a, b) == null ? 0 : 1;
    }

    int difference(int a, int b) {
        if (!isLine(a) || !isLine(b) || a >= b) {
            return CROSS_BAD;
        }
        Ratio[] s = shares(a, b);
        if (s == null || lines.get(a).held || lines.get(b).held) {
            return CROSS_NO;
        }
        Ratio one = lines.get(a).height(s[0]);
        Ratio two = lines.get(b).height(s[1]);
        if (one == null || two == null) {
            return CROSS_NO;
        }
        return (int) Ratio.of(10).times(one.less(two)).floor();
    }

    private boolean joined(int a, int b) {
        return a != b && difference(Math.min(a, b), Math.max(a, b)) != CROSS_NO;
    }

    /** All tracks that can be reached from one, itself too. */
    private boolean[] reached(int from) {
        boolean[] in = new boolean[lines.size()];
        in[from] = true;
        for (int round = 0; round < lines.size(); round++) {
            for (int a = 0; a < lines.size(); a++) {
                for (int b = 0; b < lines.size(); b++) {
                    in[b] |= in[a] && joined(a, b);
                }
            }
        }
        return in;
    }

    private static int many(boolean[] in) {
        int many = 0;
        for (boolean is : in) {
            many += is ? 1 : 0;
        }
        return many;
    }

    int net(int what) {
        int differences = 0;
        int alone = 0;
        List<boolean[]> nets = new ArrayList<>();
        for (int a = 0; a < lines.size(); a++) {
            for (int b = a + 1; b < lines.size(); b++) {
                differences += joined(a, b) ? 1 : 0;
            }
            boolean[] in = reached(a);
            alone += many(in) == 1 ? 1 : 0;
            if (many(in) > 1 && nets.stream().noneMatch(net -> Arrays.equals(net, in))) {
                nets.add(in);
            }
        }
        return what == 0 ? differences : what == 1 ? nets.size() : what == 2 ? alone : -1;
    }

    /**
     * One system for all tracks at once: of each track, that the sum of squares does not change
     * with it, and of its net, that the sum is 0, added up (the first sums to 0 over a net, so
     * both hold, if the sum of both does).
     */
    private Ratio[] offs() {
        int n = lines.size();
        Ratio[][] rows = new Ratio[n][n + 1];
        for (int a = 0; a < n; a++) {
            Arrays.fill(rows[a], Ratio.ZERO);
            boolean[] in = reached(a);
            for (int b = 0; b < n; b++) {
                if (in[b]) {
                    rows[a][b] = rows[a][b].plus(Ratio.ONE);
                }
                if (joined(a, b)) {
                    int d = a < b ? difference(a, b) : -difference(b, a);
                    rows[a][a] = rows[a][a].plus(Ratio.ONE);
                    rows[a][b] = rows[a][b].less(Ratio.ONE);
                    rows[a][n] = rows[a][n].plus(Ratio.of(d));
                }
            }
        }
        return solved(rows, n);
    }

    private static Ratio[] solved(Ratio[][] rows, int n) {
        for (int k = 0; k < n; k++) {
            int found = k;
            while (rows[found][k].isZero()) {
                found++;
            }
            Ratio[] moved = rows[found];
            rows[found] = rows[k];
            rows[k] = moved;
            for (int r = 0; r < n; r++) {
                if (r != k) {
                    Ratio factor = rows[r][k].by(rows[k][k]);
                    for (int c = 0; c <= n; c++) {
                        rows[r][c] = rows[r][c].less(factor.times(rows[k][c]));
                    }
                }
            }
        }
        Ratio[] answer = new Ratio[n];
        for (int k = 0; k < n; k++) {
            answer[k] = rows[k][n].by(rows[k][k]);
        }
        return answer;
    }

    long off(int track, int part) {
        return !isLine(track) || !isPart(part) ? WIDE_BAD : offs()[track].part(part);
    }

    private Ratio squares(Ratio[] offs) {
        Ratio sum = Ratio.ZERO;
        for (int a = 0; a < lines.size(); a++) {
            for (int b = a + 1; b < lines.size(); b++) {
                if (joined(a, b)) {
                    Ratio left = Ratio.of(difference(a, b)).less(offs[a].less(offs[b]));
                    sum = sum.plus(left.times(left));
                }
            }
        }
        return sum;
    }

    long before() {
        Ratio[] none = new Ratio[lines.size()];
        Arrays.fill(none, Ratio.ZERO);
        return squares(none).floor();
    }

    long behind() {
        return squares(offs()).floor();
    }

    int loop(int a, int b, int c) {
        if (!isLine(a) || !isLine(b) || !isLine(c) || a >= b || b >= c) {
            return CROSS_BAD;
        }
        if (!joined(a, b) || !joined(b, c) || !joined(a, c)) {
            return CROSS_NO;
        }
        return difference(a, b) + difference(b, c) - difference(a, c);
    }

    int tone(int p) {
        if (p < 1 || p > 1000000) {
            return -1;
        }
        if (tones.size() == 6) {
            return -3;
        }
        tones.add(p);
        return tones.size() - 1;
    }

    /** The size of the frequency: the whole k is looked for on both sides of the fraction. */
    private Ratio frequency(int tone, int r) {
        long p = tones.get(tone);
        Ratio least = null;
        for (long k = r / p - 1; k <= r / p + 2; k++) {
            Ratio f = Ratio.of(1000, p).less(Ratio.of(k).times(Ratio.of(1000, r))).size();
            least = least == null || f.compare(least) < 0 ? f : least;
        }
        return least;
    }

    long seen(int tone, int r, int part) {
        if (!isTone(tone) || r < 1 || r > 1000000 || !isPart(part)) {
            return -1;
        }
        Ratio f = frequency(tone, r);
        return f.isZero() ? -4 : Ratio.ONE.by(f).part(part);
    }

    int apart(int tone, int other, int r, int y) {
        if (!isTone(tone) || !isTone(other) || tone == other) {
            return -1;
        }
        if (r < 1 || r > 1000000 || y < 1 || y > 100000) {
            return -1;
        }
        Ratio differ = frequency(tone, r).less(frequency(other, r)).size();
        return differ.compare(Ratio.of(1, y)) >= 0 ? 1 : 0;
    }

    long box(int w, int i, int j, int what) {
        if (w < 1 || w > 50 || i < -100 || i > 100 || j < -100 || j > 100 || !isPart(what)) {
            return WIDE_BAD;
        }
        Ratio[] offs = offs();
        long many = 0;
        long sum = 0;
        for (int t = 0; t < lines.size(); t++) {
            Line line = lines.get(t);
            for (int k = 0; k <= 8 && !line.held; k++) {
                Ratio share = Ratio.of(k, 8);
                boolean in = line.x(share).by(Ratio.of(w)).floor() == i
                    && line.y(share).by(Ratio.of(w)).floor() == j;
                if (in && line.heights[k] != null) {
                    many++;
                    sum += 10L * line.heights[k] - offs[t].floor();
                }
            }
        }
        return what == 0 ? many : sum;
    }

    int count(int what) {
        int readings = 0;
        int held = 0;
        for (Line line : lines) {
            held += line.held ? 1 : 0;
            for (Integer height : line.heights) {
                readings += height == null ? 0 : 1;
            }
        }
        int[] all = {lines.size(), readings, tones.size(), held};
        return what < 0 || what > 3 ? -1 : all[what];
    }
}
