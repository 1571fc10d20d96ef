import java.util.ArrayList;
import java.util.HashMap;
import java.util.List;
import java.util.Map;

/** What the boundary tests share: halls from empty to full, refused calls that must leave no trace, ranges. */
final class Boundaries {
    static final int NONE = -1, UNKNOWN = -1001, OUTSIDE = -1002, NOT = -1003, FULL = -1004;

    interface Hall {
        HallHeard make();
    }

    interface Call {
        long on(HallHeard x);
    }

    interface CallWith {
        long on(HallHeard x, int v);
    }

    static final Hall EMPTY = HallHeard::new;
    static final Hall FURNISHED = Boundaries::furnished;
    static final Hall FILLED = Boundaries::filled;

    private static final Map<Hall, List<Long>> STATES = new HashMap<>();
    private static final int TOLD_AT_MOST = 40;
    private static int asked = 0;
    private static int wrong = 0;

    private Boundaries() {
    }

    static void due(int promise, String sentence, long got, long want) {
        asked++;
        if (got != want) fault(promise, sentence + " answered " + got + ", due is " + want);
    }

    static void fault(int promise, String text) {
        wrong++;
        // one broken sentence may show in many views of a scene
        if (wrong <= TOLD_AT_MOST) System.out.println("promise " + promise + ": " + text);
    }

    static void end(String name) {
        System.out.println(name + ": " + asked + " answers, " + wrong + " not as due");
        if (wrong != 0) System.exit(1);
    }

    /** The call answers the word of its refusal, and all that can be asked of the hall is as if it had not come. */
    static void refused(int promise, String sentence, Hall hall, int word, Call call) {
        leavesAll(promise, sentence, hall, x -> {
            long got = call.on(x);
            due(promise, sentence, got, word);
            return got;
        });
    }

    static void leavesAll(int promise, String sentence, Hall hall, Call call) {
        HallHeard x = hall.make();
        call.on(x);
        List<Long> want = STATES.computeIfAbsent(hall, h -> state(h.make()));
        if (!state(x).equals(want)) fault(promise, sentence + ": something is changed");
    }

    /** The last numbers that are allowed are, the first ones that are not are refused, and so are the extremes. */
    static void range(int promise, String name, Hall hall, int least, int greatest, int word, CallWith call) {
        for (int v : new int[] {least, greatest}) {
            long got = call.on(hall.make(), v);
            asked++;
            if (got < NONE) fault(promise, name + " " + v + " answered " + got + ", but is allowed");
        }
        for (int v : new int[] {least - 1, greatest + 1, Integer.MIN_VALUE, Integer.MAX_VALUE}) {
            refused(promise, name + " " + v, hall, word, x -> call.on(x, v));
        }
    }

    /** Some of everything, nothing full, MOST and BORDER not as at first: 5 walls, 3 stuffs, 2 sources, 3 seats. */
    private static HallHeard furnished() {
        HallHeard x = new HallHeard();
        x.stuff(30, 5);
        x.stuff(0, 200);
        x.wall(0, 0, 600, 0, 0);
        x.wall(600, 0, 600, 400, 1);
        x.wall(600, 400, 0, 400, 0);
        x.wall(0, 400, 0, 0, 2);
        x.wall(300, 150, 300, 220, 0);
        x.source(150, 100, 1000);
        x.source(20, 380, 17);
        x.seat(451, 300);
        x.seat(299, 160);
        x.seat(150, 100);
        x.rule(0, 3);
        x.rule(1, 2);
        return x;
    }

    /** As much of everything as there may be. */
    private static HallHeard filled() {
        HallHeard x = new HallHeard();
        for (int k = 1; k < 8; k++) x.stuff(100 - 14 * k, 100 * k);
        x.wall(0, 0, 1000, 0, 0);
        x.wall(1000, 0, 1000, 1000, 1);
        x.wall(1000, 1000, 0, 1000, 2);
        x.wall(0, 1000, 0, 0, 3);
        for (int k = 0; k < 12; k++) x.wall(70 + 75 * k, 400, 70 + 75 * k, 450 + 10 * k, k % 8);
        for (int k = 0; k < 4; k++) x.source(100 + 200 * k, 100 + 13 * k, 250 * (k + 1));
        for (int k = 0; k < 8; k++) x.seat(60 + 111 * k, 900 - 77 * k);
        x.rule(1, 9);
        return x;
    }

    /** All that can be asked of a hall; the walls are taken away at the end, to see where the points are. */
    private static List<Long> state(HallHeard x) {
        List<Long> state = new ArrayList<>();
        for (int what = 0; what < 7; what++) state.add((long) x.count(what));
        tellRule(x, 0, state);
        tellRule(x, 1, state);
        state.add(x.left(1000000000000L, 7));
        for (int wall = 0; wall < x.count(0); wall++) {
            for (int what = 0; what < 6; what++) state.add((long) x.told(wall, what));
        }
        int sources = x.count(2);
        int seats = x.count(3);
        for (int source = 0; source < sources; source++) {
            state.add((long) x.worst(source));
            for (int seat = 0; seat < seats; seat++) {
                state.add((long) x.paths(source, seat, NONE));
                for (int what = 0; what < 4; what++) state.add(x.heard(source, seat, what));
            }
        }
        for (int money : new int[] {0, 1500, 1000000}) {
            for (int what = 0; what < 3; what++) state.add((long) x.best(0, 0, 3, money, what));
        }
        for (int left = x.count(0); left > 0; left--) state.add((long) x.back());
        tellShares(x, state);
        for (int source = 0; source < sources; source++) {
            for (int seat = 0; seat < seats; seat++) {
                state.add(x.path(source, seat, 0, 4));
                state.add(x.path(source, seat, 0, 5));
            }
        }
        return state;
    }

    private static void tellRule(HallHeard x, int what, List<Long> state) {
        int v = x.rule(what, 1);
        x.rule(what, v);
        state.add((long) v);
    }

    private static void tellShares(HallHeard x, List<Long> state) {
        int stuffs = x.count(1);
        for (int stuff = 0; stuff < stuffs; stuff++) {
            x.wall(0, 0, 100, 0, stuff);
            state.add((long) x.count(5));
            x.back();
        }
    }
}
