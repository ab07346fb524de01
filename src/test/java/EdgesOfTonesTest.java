/** Each sentence of the document on an edge of tones (promises 13 to 15). */
public final class EdgesOfTonesTest {
    private static final Checks CHECKS = new Checks("EdgesOfTonesTest");

    public static void main(String[] args) {
        asTheyCome();
        periods();
        fullOfTones();
        badBeforeFull();
        seenEvery();
        leastBySize();
        halfWay();
        noFrequency();
        seenInLowestTerms();
        slowestAndFastest();
        seenOfNothingTold();
        seenBadBeforeNone();
        atLeast();
        aZeroToo();
        sizesDiffer();
        tonesAlike();
        daysAtTheirEdges();
        apartOfLargeNumbers();
        apartOfNothingTold();
        CHECKS.end();
    }

    private static void due(String call, long got, long want) {
        CHECKS.due(call, got, want);
    }

    private static TrackCrossings with(int... periods) {
        TrackCrossings x = new TrackCrossings();
        for (int p : periods) {
            x.tone(p);
        }
        return x;
    }

    /** A period p seen every r. */
    private static void dueSeen(int p, int r, long above, long below) {
        TrackCrossings x = with(p);
        due("seen(0, " + r + ", 0) of " + p, x.seen(0, r, 0), above);
        due("seen(0, " + r + ", 1) of " + p, x.seen(0, r, 1), below);
    }

    private static void dueApart(int[] periods, int r, int y, int want) {
        TrackCrossings x = with(periods);
        String of = ", " + r + ", " + y + ") of " + periods[0] + " and " + periods[1];
        due("apart(0, 1" + of, x.apart(0, 1, r, y), want);
        due("apart(1, 0" + of, x.apart(1, 0, r, y), want);
    }

    private static void asTheyCome() {
        CHECKS.sentence("13: A TONE: its number (TONES 0 to 5)");
        TrackCrossings x = new TrackCrossings();
        for (int t = 0; t < 6; t++) {
            due("tone, refused", x.tone(0), -1);
            due("tone " + t, x.tone(1000 * (t + 2)), t);
            due("count(2)", x.count(2), t + 1);
        }
        for (int t = 0; t < 6; t++) {
            due("seen(" + t + ", 1, 0)", x.seen(t, 1, 0), t + 2);
        }
    }

    private static void periods() {
        CHECKS.sentence("a period of P by 1000 days (1 to 1000000)");
        TrackCrossings x = new TrackCrossings();
        int[] none = {0, -1, 1000001, -1000000, Scenes.FAR, Scenes.DEEP};
        for (int p : none) {
            due("tone(" + p + ")", x.tone(p), -1);
        }
        due("count(2)", x.count(2), 0);
        due("tone(1)", x.tone(1), 0);
        due("tone(1000000)", x.tone(1000000), 1);
        due("seen of the longest", x.seen(1, 1, 0), 1000);
        due("seen of the longest, below", x.seen(1, 1, 1), 1);
        due("seen of the shortest", x.seen(0, 1, 0), -4);
    }

    private static void fullOfTones() {
        CHECKS.sentence("13: FULL: 6");
        TrackCrossings x = with(2000, 2000, 2000, 2000, 2000, 3000);
        due("a seventh", x.tone(5000), -3);
        due("an eighth", x.tone(1000000), -3);
        due("count(2)", x.count(2), 6);
        due("the last is as it was", x.seen(5, 1, 0), 3);
        due("there is none behind", x.seen(6, 1, 0), -1);
    }

    private static void badBeforeFull() {
        CHECKS.sentence("Of several the first (of BAD and FULL: tone)");
        TrackCrossings x = with(1, 2, 3, 4, 5, 6);
        due("a seventh of 0", x.tone(0), -1);
        due("a seventh too long", x.tone(1000001), -1);
    }

    private static void seenEvery() {
        CHECKS.sentence("SEEN every R by 1000 days (1 to 1000000)");
        TrackCrossings x = with(4000, 1000000);
        int[] none = {0, -1, 1000001, -4000, Scenes.FAR, Scenes.DEEP};
        for (int r : none) {
            due("seen(0, " + r + ", 0)", x.seen(0, r, 0), -1);
            due("seen(0, " + r + ", 1)", x.seen(0, r, 1), -1);
            due("apart(0, 1, " + r + ", 1)", x.apart(0, 1, r, 1), -1);
        }
        due("seen(0, 1, 0)", x.seen(0, 1, 0), 4);
        due("seen(0, 1000000, 0)", x.seen(0, 1000000, 0), -4);
        due("seen(1, 999999, 1)", x.seen(1, 999999, 1), 1);
        due("apart(0, 1, 1, 5)", x.apart(0, 1, 1, 5), 1);
        due("apart(0, 1, 1000000, 5)", x.apart(0, 1, 1000000, 5), 0);
    }

    private static void leastBySize() {
        CHECKS.sentence("1000 by P less k times 1000 by R, for the whole k with which it is least by size");
        // k = 0: as it is.
        dueSeen(4000, 1000, 4, 1);
        // k = 1 just before and just behind a whole: 1/4 less 1/3.999 and 1/4 less 1/4.001.
        dueSeen(4000, 3999, 15996, 1);
        dueSeen(4000, 4001, 16004, 1);
        // k = 2, below 0: 1/4 less 2/7 is -1/28; above 0: 1/4 less 2/9 is 1/36.
        dueSeen(4000, 7000, 28, 1);
        dueSeen(4000, 9000, 36, 1);
        // k = 500000: 1000/2 less 500000 times 1000/999999.
        dueSeen(2, 999999, 999999, 500);
        // The half day of the moon, every 9.916 days: k = 19.
        dueSeen(518, 9916, 17353, 250);
    }

    private static void halfWay() {
        CHECKS.sentence("of two the one below 0");
        dueSeen(4000, 2000, 4, 1);
        dueSeen(4000, 1999, 4, 1);
        dueSeen(4000, 2001, 8004, 1999);
        dueSeen(4000, 6000, 12, 1);
        dueSeen(2, 1, 1, 500);
        dueSeen(2, 3, 3, 500);
        dueSeen(1000000, 500000, 1000, 1);
        // 1/4 is seen as -1/4 every 2 days, and 1/3 as -1/6: their sizes count.
        dueApart(new int[] {4000, 3000}, 2000, 12, 1);
        dueApart(new int[] {4000, 3000}, 2000, 11, 0);
    }

    private static void noFrequency() {
        CHECKS.sentence("14: NONE: its FREQUENCY is 0");
        dueSeen(4000, 4000, -4, -4);
        dueSeen(4000, 8000, -4, -4);
        dueSeen(1, 1, -4, -4);
        dueSeen(1, 777777, -4, -4);
        dueSeen(1000000, 1000000, -4, -4);
        dueSeen(500000, 1000000, -4, -4);
        // The other way round it is not 0.
        dueSeen(8000, 4000, 8, 1);
        dueSeen(1000000, 1, 1000, 1);
    }

    private static void seenInLowestTerms() {
        CHECKS.sentence("its SEEN PERIOD is 1 by that size: a fraction of days (in lowest terms)");
        dueSeen(4000, 4250, 68, 1);
        dueSeen(4000, 4006, 8012, 3);
        dueSeen(3, 1, 3, 1000);
        dueSeen(1500, 1, 3, 2);
        dueSeen(999999, 1, 999999, 1000);
    }

    private static void slowestAndFastest() {
        CHECKS.sentence("its SEEN PERIOD is 1 by that size (at its longest and shortest)");
        dueSeen(1000000, 999999, 999999000, 1);
        dueSeen(999999, 1000000, 999999000, 1);
        dueSeen(999999, 999998, 499998500001L, 500);
        dueSeen(2, 1, 1, 500);
    }

    private static void seenOfNothingTold() {
        CHECKS.sentence("14: BAD");
        TrackCrossings x = with(4000, 5000);
        int[] noTones = {-1, 2, 6, Scenes.FAR, Scenes.DEEP};
        for (int t : noTones) {
            due("seen(" + t + ", 1000, 0)", x.seen(t, 1000, 0), -1);
            due("seen(" + t + ", 1000, 1)", x.seen(t, 1000, 1), -1);
        }
        int[] noParts = {-1, 2, Scenes.FAR, Scenes.DEEP};
        for (int part : noParts) {
            due("seen(0, 1000, " + part + ")", x.seen(0, 1000, part), -1);
        }
    }

    private static void seenBadBeforeNone() {
        CHECKS.sentence("Of several the first (of BAD and NONE: seen)");
        TrackCrossings x = with(4000);
        due("seen(0, 8000, 0)", x.seen(0, 8000, 0), -4);
        due("seen(0, 8000, 2)", x.seen(0, 8000, 2), -1);
        due("seen(0, 8000, -1)", x.seen(0, 8000, -1), -1);
        due("seen(1, 8000, 0)", x.seen(1, 8000, 0), -1);
    }

    private static void atLeast() {
        CHECKS.sentence("the sizes of their FREQUENCIES differ by 1 by y at least");
        // 1/4 less 1/5 is 1/20.
        dueApart(new int[] {4000, 5000}, 1000, 20, 1);
        dueApart(new int[] {4000, 5000}, 1000, 19, 0);
        dueApart(new int[] {4000, 5000}, 1000, 21, 1);
        // 1/4 less 2/11 is 3/44, more than 1/15 and less than 1/14.
        dueApart(new int[] {4000, 5500}, 1000, 15, 1);
        dueApart(new int[] {4000, 5500}, 1000, 14, 0);
    }

    private static void aZeroToo() {
        CHECKS.sentence("differ by 1 by y at least (a 0 too)");
        // Every 4 days the first has 0, the second 1/5 less 1/4.
        dueApart(new int[] {4000, 5000}, 4000, 20, 1);
        dueApart(new int[] {4000, 5000}, 4000, 19, 0);
        dueApart(new int[] {4000, 5000}, 4000, 100000, 1);
        // Two of 0 do not differ.
        dueApart(new int[] {4000, 2000}, 4000, 1, 0);
        dueApart(new int[] {4000, 2000}, 4000, 100000, 0);
    }

    private static void sizesDiffer() {
        CHECKS.sentence("the sizes of their FREQUENCIES differ (not their signs)");
        // Every 4.5 days 1/4 is seen as 1/36 and 1/5 as -1/45: by size 1/180, by sign 1/20.
        dueApart(new int[] {4000, 5000}, 4500, 179, 0);
        dueApart(new int[] {4000, 5000}, 4500, 180, 1);
        // Every 4.8 days 1/4 is seen as 1/24 and 1/6 as -1/24; every 3 days 1/2 as -1/6 and 1/6 as it is.
        dueApart(new int[] {4000, 6000}, 4800, 100000, 0);
        dueApart(new int[] {2000, 6000}, 3000, 100000, 0);
    }

    private static void tonesAlike() {
        CHECKS.sentence("two TONES are TOLD APART (two of one period never)");
        dueApart(new int[] {4000, 4000}, 1000, 1, 0);
        dueApart(new int[] {4000, 4000}, 1000, 100000, 0);
        dueApart(new int[] {1000000, 1000000}, 999999, 100000, 0);
    }

    private static void daysAtTheirEdges() {
        CHECKS.sentence("15: within y days (1 to 100000)");
        TrackCrossings x = with(4000, 5000);
        int[] none = {0, -1, 100001, 1000000, Scenes.FAR, Scenes.DEEP};
        for (int y : none) {
            due("apart(0, 1, 1000, " + y + ")", x.apart(0, 1, 1000, y), -1);
        }
        // Every 0.001 days 1 and 2 a day are as they are, and so is 1000/501 a day.
        dueApart(new int[] {1000, 500}, 1, 1, 1);
        dueApart(new int[] {1000, 501}, 1, 1, 0);
        dueApart(new int[] {1000, 501}, 1, 2, 1);
        // Every 781.25 days the sizes are 0.00032 and 0.00031.
        dueApart(new int[] {8, 256}, 781250, 100000, 1);
        dueApart(new int[] {8, 256}, 781250, 99999, 0);
    }

    private static void apartOfLargeNumbers() {
        CHECKS.sentence("differ by 1 by y at least (where products leave a long)");
        // Every 600 days 1/1000 is seen as 2/3000 by size, 1/300 as 0.
        dueApart(new int[] {1000000, 300000}, 600000, 1500, 1);
        dueApart(new int[] {1000000, 300000}, 600000, 1499, 0);
        dueApart(new int[] {1000000, 300000}, 600000, 100000, 1);
        dueApart(new int[] {1000000, 999999}, 500000, 100000, 0);
        dueApart(new int[] {1000000, 999999}, 1000000, 100000, 0);
        dueApart(new int[] {1000000, 2}, 1, 1, 1);
    }

    private static void apartOfNothingTold() {
        CHECKS.sentence("15: BAD (the same one, too)");
        TrackCrossings x = with(4000, 5000);
        due("apart(0, 0, 1000, 20)", x.apart(0, 0, 1000, 20), -1);
        due("apart(1, 1, 1000, 20)", x.apart(1, 1, 1000, 20), -1);
        int[] noTones = {-1, 2, 6, Scenes.FAR, Scenes.DEEP};
        for (int t : noTones) {
            due("apart(" + t + ", 0, 1000, 20)", x.apart(t, 0, 1000, 20), -1);
            due("apart(0, " + t + ", 1000, 20)", x.apart(0, t, 1000, 20), -1);
            due("apart(" + t + ", " + t + ", 1000, 20)", x.apart(t, t, 1000, 20), -1);
        }
        due("apart(0, 1, 1000, 20)", x.apart(0, 1, 1000, 20), 1);
    }
}
