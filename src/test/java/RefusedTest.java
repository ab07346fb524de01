import java.util.ArrayList;
import java.util.List;
import java.util.function.ToLongFunction;

/**
 * "Of several the first; nothing changes then": behind each refused call an object answers all that
 * can be asked just as a twin does that never got that call.
 */
public final class RefusedTest {
    private static final Checks CHECKS = new Checks("RefusedTest");
    private static final int MOST_CALLS = 512;

    /** A call that is refused, with the answer that is due. */
    private record Refused(String name, long due, ToLongFunction<TrackCrossings> call) {
    }

    public static void main(String[] args) {
        for (Refused refused : always()) {
            for (int tracks = 0; tracks <= 8; tracks += 4) {
                nothingChanges(refused, tracks, 3);
            }
        }
        for (Refused refused : whenFull()) {
            nothingChanges(refused, 8, 6);
        }
        for (Refused refused : asThingsStand()) {
            nothingChanges(refused, 4, 3);
        }
        nextIsNotSoiled();
        CHECKS.end();
    }

    /** Tracks that all cross; the third lacks its first readings, and the last is held out. */
    private static TrackCrossings scene(int tracks, int tones) {
        TrackCrossings x = new TrackCrossings();
        for (int t = 0; t < tracks; t++) {
            int[] e = Scenes.FAN[t];
            x.track(e[0], e[1], e[2], e[3], 10 * t, 1000 * t + 999);
            for (int i = t == 2 ? 3 : 0; i <= 8; i++) {
                x.read(t, i, 7 * t - 3 * i * (t - 1));
            }
        }
        x.hold(tracks - 1, true);
        for (int t = 0; t < tones; t++) {
            x.tone(3000 + 500 * t);
        }
        return x;
    }

    private static int callsOfScene(int tracks, int tones) {
        return 10 * tracks + 1 + tones;
    }

    private static void nothingChanges(Refused refused, int tracks, int tones) {
        CHECKS.sentence("nothing changes then: " + refused.name + " with " + tracks + " tracks, " + tones + " tones");
        TrackCrossings x = scene(tracks, tones);
        TrackCrossings twin = scene(tracks, tones);
        // Asked before it, too, so that what is kept from then on is seen.
        CHECKS.due("before()", x.before(), twin.before());
        CHECKS.due(refused.name, refused.call.applyAsLong(x), refused.due);
        List<Long> got = allThatCanBeAsked(x, tracks, tones);
        List<Long> want = allThatCanBeAsked(twin, tracks, tones);
        CHECKS.holds("as many answers", got.size() == want.size());
        CHECKS.holds("few enough calls", callsOfScene(tracks, tones) + 2 + got.size() <= MOST_CALLS);
        for (int k = 0; k < want.size(); k++) {
            CHECKS.due("answer " + k, got.get(k), want.get(k));
        }
    }

    private static List<Long> allThatCanBeAsked(TrackCrossings x, int tracks, int tones) {
        List<Long> answers = new ArrayList<>();
        askOfAll(x, answers);
        for (int t = 0; t < tracks; t++) {
            answers.add(x.off(t, 0));
            answers.add(x.off(t, 1));
            answers.add((long) x.crosses(t, (t + 1) % tracks));
            for (int other = t + 1; other < tracks; other++) {
                answers.add((long) x.difference(t, other));
                answers.add(x.cross(t, other, 0, 0));
                answers.add(x.cross(t, other, 2, 0));
                answers.add(x.cross(t, other, 3, 0));
            }
        }
        for (int t = 0; t < tones; t++) {
            answers.add(x.seen(t, 1, 0));
            answers.add(x.seen(t, 1, 1));
        }
        askByChanging(x, answers, tracks);
        return answers;
    }

    private static void askOfAll(TrackCrossings x, List<Long> answers) {
        for (int what = 0; what < 4; what++) {
            answers.add((long) x.count(what));
        }
        for (int what = 0; what < 3; what++) {
            answers.add((long) x.net(what));
        }
        answers.add(x.before());
        answers.add(x.behind());
        for (int i = -2; i <= 2; i++) {
            answers.add(x.box(50, i, 0, 0));
            answers.add(x.box(50, i, 0, 1));
        }
    }

    private static void askByChanging(TrackCrossings x, List<Long> answers, int tracks) {
        for (int t = 0; t < tracks; t++) {
            answers.add((long) x.hold(t, false));
            for (int i = 0; i <= 8; i++) {
                answers.add((long) x.read(t, i, 0));
            }
        }
        answers.add((long) x.track(-100, 1, 99, 0, 3, 4));
        answers.add(x.cross(tracks, 0, 0, 0));
        answers.add((long) x.tone(1234));
        answers.add((long) x.count(1));
        answers.add((long) x.net(0));
    }

    /** Refused whatever stands. */
    private static List<Refused> always() {
        int bad = TrackCrossings.BAD;
        return List.of(
            new Refused("track off the map", bad, x -> x.track(-100, 0, 101, 0, 0, 1)),
            new Refused("track too late", bad, x -> x.track(0, 0, 1, 1, 0, 1000001)),
            new Refused("track back in time", bad, x -> x.track(0, 0, 1, 1, 1, 0)),
            new Refused("track of one place", bad, x -> x.track(1, 1, 1, 1, 0, 1)),
            new Refused("read of track -1", Scenes.READ_BAD, x -> x.read(-1, 0, 1)),
            new Refused("read of track 8", Scenes.READ_BAD, x -> x.read(8, 0, 1)),
            new Refused("read of reading -1", Scenes.READ_BAD, x -> x.read(0, -1, 1)),
            new Refused("read of reading 9", Scenes.READ_BAD, x -> x.read(0, 9, 1)),
            new Refused("read too high", Scenes.READ_BAD, x -> x.read(0, 0, 10001)),
            new Refused("read too low", Scenes.READ_BAD, x -> x.read(0, 0, -10001)),
            new Refused("read of BAD's own number", Scenes.READ_BAD, x -> x.read(0, 0, 300000)),
            new Refused("hold of track -1", bad, x -> x.hold(-1, true)),
            new Refused("hold of track 8", bad, x -> x.hold(8, true)),
            new Refused("cross of one track", Scenes.CROSS_BAD, x -> x.cross(0, 0, 0, 0)),
            new Refused("cross of what 8", Scenes.CROSS_BAD, x -> x.cross(0, 1, 8, 0)),
            new Refused("crosses of one track", bad, x -> x.crosses(0, 0)),
            new Refused("difference falling", Scenes.CROSS_BAD, x -> x.difference(1, 0)),
            new Refused("net of 3", bad, x -> x.net(3)),
            new Refused("off of track 8", Scenes.WIDE_BAD, x -> x.off(8, 0)),
            new Refused("loop falling", Scenes.CROSS_BAD, x -> x.loop(2, 1, 0)),
            new Refused("tone of 0", bad, x -> x.tone(0)),
            new Refused("tone too long", bad, x -> x.tone(1000001)),
            new Refused("seen of tone 6", bad, x -> x.seen(6, 1, 0)),
            new Refused("seen every 0", bad, x -> x.seen(0, 0, 0)),
            new Refused("apart of one tone", bad, x -> x.apart(0, 0, 1, 1)),
            new Refused("apart within 0 days", bad, x -> x.apart(0, 1, 1, 0)),
            new Refused("box of 0", Scenes.WIDE_BAD, x -> x.box(0, 0, 0, 0)),
            new Refused("box 101", Scenes.WIDE_BAD, x -> x.box(1, 101, 0, 0)),
            new Refused("count of 4", bad, x -> x.count(4)));
    }

    private static List<Refused> whenFull() {
        return List.of(
            new Refused("a ninth track", TrackCrossings.FULL, x -> x.track(-50, 3, 50, -3, 5, 6)),
            new Refused("a seventh tone", TrackCrossings.FULL, x -> x.tone(7777)));
    }

    /** Refused with four tracks, the last of them held out, of which the third lacks its first readings. */
    private static List<Refused> asThingsStand() {
        return List.of(
            new Refused("read of a track to come", Scenes.READ_BAD, x -> x.read(4, 0, 1)),
            new Refused("hold of a track to come", TrackCrossings.BAD, x -> x.hold(4, true)),
            new Refused("difference of one held out", Scenes.CROSS_NO, x -> x.difference(0, 3)),
            new Refused("loop with one held out", Scenes.CROSS_NO, x -> x.loop(0, 1, 3)),
            new Refused("seen at 0", TrackCrossings.NONE, x -> x.seen(0, 6000, 0)),
            new Refused("seen of a tone to come", TrackCrossings.BAD, x -> x.seen(3, 1, 0)));
    }

    /** What was refused for a track or tone to come is not found on it when it comes. */
    private static void nextIsNotSoiled() {
        CHECKS.sentence("nothing changes then (of what is made next)");
        TrackCrossings x = Scenes.plus();
        x.read(2, 0, 5);
        x.hold(2, true);
        x.track(7, 7, 7, 7, 3, 9);
        x.track(50, 60, 70, 80, 3, 2);
        x.tone(-5);
        CHECKS.due("track", x.track(-8, 1, 8, 1, 0, 16), 2);
        CHECKS.due("its reading", x.read(2, 0, 1), Scenes.MISSING);
        CHECKS.due("it is not held out", x.hold(2, false), 0);
        CHECKS.due("its crossing's y", x.cross(2, 1, 1, 0), 1);
        CHECKS.due("its crossing's time", x.cross(2, 1, 2, 0), 8);
        CHECKS.due("tone", x.tone(2000), 0);
        CHECKS.due("its period", x.seen(0, 1, 0), 2);
    }
}
