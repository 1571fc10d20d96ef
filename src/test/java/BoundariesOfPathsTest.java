/** The boundaries of promises 12 to 14, sentence by sentence: bounces, sight, the order of paths, their lengths. */
public final class BoundariesOfPathsTest {
    private static final int UNKNOWN = Boundaries.UNKNOWN, OUTSIDE = Boundaries.OUTSIDE, NONE = Boundaries.NONE;
    private static final Boundaries.Hall EMPTY = Boundaries.EMPTY;
    private static final Boundaries.Hall FURNISHED = Boundaries.FURNISHED;
    private static final Boundaries.Hall FILLED = Boundaries.FILLED;

    private static void due(int promise, String sentence, long got, long want) {
        Boundaries.due(promise, sentence, got, want);
    }

    // ---- order 0

    /** "With order 0 the leg is from the SEAT to the SOURCE (it may have no length)." */
    private static void legOfNoLength() {
        Scene here = Scene.of(500, 300, 500, 300);
        here.sees("no wall at all", 1);
        here.and(500, 200, 500, 400).sees("within a wall", 0);
        here.and(500, 300, 500, 400).sees("at a wall's end", 0);
        here.and(500, 301, 500, 400).sees("1 ahead of a wall's end", 1);
        here.and(501, 200, 501, 400).sees("1 beside a wall", 1);
        here.and(501, 300, 600, 300).sees("on a wall's line, 1 off its end", 1);
    }

    /** "no leg has a point in common with any WALL", "A point is ON a WALL also at its ends". */
    private static void wallAcrossLeg() {
        Scene free = Scene.of(100, 300, 500, 300);
        free.sees("no wall at all", 1);
        free.and(300, 200, 300, 400).sees("across", 0);
        free.and(300, 300, 300, 400).sees("its end on the leg", 0);
        free.and(300, 301, 300, 400).sees("its end 1 off the leg", 1);
        free.and(100, 200, 100, 400).sees("the leg's end on it", 0);
        free.and(99, 200, 99, 400).sees("1 behind the leg's end", 1);
        free.and(100, 300, 100, 400).sees("the leg's end at its end", 0);
        free.and(100, 301, 100, 400).sees("its end 1 off the leg's end", 1);
        free.and(99, 300, 99, 400).sees("its end 1 behind the leg's end", 1);
    }

    private static void wallAlongLeg() {
        Scene free = Scene.of(100, 300, 500, 300);
        free.and(200, 300, 400, 300).sees("within the leg", 0);
        free.and(50, 300, 600, 300).sees("beyond both ends", 0);
        free.and(100, 300, 500, 300).sees("the leg itself", 0);
        free.and(50, 300, 101, 300).sees("over one end", 0);
        free.and(50, 300, 100, 300).sees("up to one end", 0);
        free.and(50, 300, 99, 300).sees("up to 1 ahead of one end", 1);
        free.and(500, 300, 501, 300).sees("from the other end on", 0);
        free.and(501, 300, 502, 300).sees("from 1 behind the other end on", 1);
        free.and(100, 301, 500, 301).sees("1 beside the leg", 1);
    }

    /** Sight "tried exactly": a leg aslant, met at a whole point or missed by a part of 1. */
    private static void wallsAndLegAslant() {
        Scene free = Scene.of(0, 0, 100, 50);
        free.and(20, 10, 20, 30).sees("its end on the leg", 0);
        free.and(20, 11, 20, 30).sees("its end 1 off", 1);
        free.and(20, 0, 20, 9).sees("its end 1 off, below", 1);
        free.and(20, 10, 0, 10).sees("its end on the leg, along", 0);
        free.and(19, 10, 0, 10).sees("its end 1 off, along", 1);
        free.and(21, 10, 60, 10).sees("its end 1 off, along, behind", 1);
        Scene steep = Scene.of(100, 300, 101, 500);
        steep.and(101, 500, 101, 600).sees("aslant by 1, its end at the leg's end", 0);
        steep.and(101, 501, 101, 600).sees("aslant by 1, its end 1 behind the leg's end", 1);
        steep.and(101, 400, 101, 499).sees("aslant by 1, beside the leg's end", 1);
        steep.and(101, 400, 102, 400).sees("aslant by 1, missed by a half", 1);
        steep.and(100, 400, 101, 400).sees("aslant by 1, met between", 0);
        Scene fine = Scene.of(0, 0, 1000, 999);
        fine.and(500, 500, 500, 600).sees("missed by a half", 1);
        fine.and(500, 499, 500, 600).sees("met by a half", 0);
        fine.and(999, 999, 999, 1000).sees("missed by a thousandth", 1);
        fine.and(999, 998, 999, 997).sees("missed by a thousandth, below", 1);
        fine.and(999, 998, 999, 999).sees("met between", 0);
    }

    // ---- order 1

    /** "strictly between its ends and ON the WALL": the bounce is at x = 300 for a seat at 500. */
    private static void bounceOnWall() {
        int[][] walls = {{200, 500, 400, 500}, {300, 500, 400, 500}, {200, 500, 300, 500}, {301, 500, 400, 500},
            {200, 500, 299, 500}};
        int[] wants = {1, 1, 1, NONE, NONE};
        for (int k = 0; k < walls.length; k++) {
            Scene.of(100, 300, 500, 300).and(walls[k]).sees("bounce on " + k, wants[k], 0);
        }
        Scene half = Scene.of(100, 300, 501, 300);
        half.and(301, 500, 400, 500).sees("half a unit ahead of the end", NONE, 0);
        half.and(200, 500, 300, 500).sees("half a unit behind the end", NONE, 0);
        half.and(300, 500, 301, 500).sees("in the middle of a unit", 1, 0);
        Scene third = Scene.of(0, 0, 50, 10);
        third.and(0, 20, 33, 20).sees("a third of a unit behind the end", NONE, 0);
        third.and(33, 20, 34, 20).sees("a third of a unit from the end", 1, 0);
        third.and(34, 20, 90, 20).sees("two thirds of a unit ahead of the end", NONE, 0);
    }

    /** "if the leg lies along the line of the WALL, or does not cross it, there is no PATH". */
    private static void legThatDoesNotCross() {
        Scene.of(100, 300, 500, 300, 0, 300, 1000, 300).sees("both on the wall", NONE, 0);
        Scene.of(100, 300, 500, 300, 600, 300, 1000, 300).sees("both on its line", NONE, 0);
        Scene.of(100, 300, 500, 400, 0, 300, 1000, 300).sees("one on the wall", NONE, 0);
        Scene.of(100, 300, 500, 400, 200, 300, 300, 300).sees("one on its line", NONE, 0);
        Scene.of(100, 299, 500, 301, 0, 300, 1000, 300).sees("on both sides", NONE, 0);
        Scene.of(100, 280, 500, 305, 0, 300, 1000, 300).sees("on both sides, one nearer", NONE, 0);
        Scene.of(100, 299, 500, 302, 0, 300, 1000, 300).sees("on both sides, one nearer by 1", NONE, 0);
        Scene.of(100, 299, 500, 299, 0, 300, 1000, 300).sees("1 off on one side", 1, 0);
        Scene.of(100, 300, 100, 300, 0, 300, 1000, 300).sees("both at one point of it", NONE, 0);
    }

    /** "if the leg has no length, neither": the seat is where the image is. */
    private static void legToImageOfNoLength() {
        Scene.of(100, 300, 100, 500, 0, 400, 1000, 400).sees("the seat is the image", NONE, 0);
        Scene.of(100, 399, 100, 399, 0, 400, 1000, 400).sees("there and back by 1", 1, 0);
        Scene.of(100, 399, 100, 399, 100, 400, 101, 400).sees("there and back at an end", 1, 0);
        Scene.of(100, 399, 100, 399, 101, 400, 102, 400).sees("there and back, 1 off", NONE, 0);
    }

    /** "1 SEEN, 0 BOUNCES are there, but it is not SEEN": each of the two legs by itself. */
    private static void legsHidden() {
        Scene free = Scene.of(100, 300, 500, 300, 0, 500, 1000, 500);
        free.sees("free", 1, 0);
        free.and(200, 350, 200, 450).sees("a screen across the first leg", 0, 0);
        free.and(400, 350, 400, 450).sees("a screen across the last leg", 0, 0);
        free.and(200, 400, 200, 450).sees("its end on the leg", 0, 0);
        free.and(200, 401, 200, 450).sees("its end 1 off the leg, outside", 1, 0);
        free.and(200, 300, 200, 399).sees("its end 1 off the leg, inside", 1, 0);
        free.and(100, 200, 100, 300).sees("it ends at the source or seat", 0, 0);
        free.and(100, 200, 100, 299).sees("it ends 1 off the source or seat", 1, 0);
        free.and(200, 501, 200, 600).sees("behind the wall", 1, 0);
        free.and(300, 300, 300, 499).sees("across the direct leg alone", 1, 0);
        free.and(300, 300, 300, 499).sees("which it hides", 0);
    }

    /** "any WALL but those whose BOUNCES are its ends": the walls of the row alone, not what lies on them. */
    private static void wallsAtBounce() {
        Scene free = Scene.of(100, 300, 500, 300, 0, 500, 1000, 500);
        free.and(300, 500, 300, 600).sees("another one begins at the bounce", 0, 0);
        free.and(301, 500, 301, 600).sees("another one begins 1 beside it", 1, 0);
        free.and(300, 501, 300, 600).sees("another one begins 1 behind it", 1, 0);
        free.and(0, 500, 1000, 500).sees("the same wall once more", 0, 0);
        free.and(0, 500, 1000, 500).sees("which is hidden by the first one", 0, 1);
        free.and(300, 500, 400, 500).sees("on it, from the bounce on", 0, 0);
        free.and(301, 500, 400, 500).sees("on it, from 1 behind the bounce on", 1, 0);
        free.and(200, 500, 299, 500).sees("on it, up to 1 ahead of the bounce", 1, 0);
    }

    /** A wall on the line of a leg that runs straight to the bounce and back. */
    private static void wallsOnLineOfLeg() {
        Scene back = Scene.of(300, 100, 300, 200, 0, 500, 1000, 500);
        back.sees("straight there and back", 1, 0);
        back.and(300, 300, 300, 400).sees("on both legs", 0, 0);
        back.and(300, 150, 300, 180).sees("on one leg alone", 0, 0);
        back.and(300, 20, 300, 100).sees("up to the farther one", 0, 0);
        back.and(300, 20, 300, 99).sees("1 behind the farther one", 1, 0);
        back.and(300, 500, 300, 600).sees("from the bounce on", 0, 0);
        back.and(300, 501, 300, 600).sees("from 1 behind the bounce on", 1, 0);
        back.and(301, 20, 301, 499).sees("1 beside", 1, 0);
    }

    // ---- orders 2 and 3

    /** "no two next to one another in it the same", "a WALL is twice side by side". */
    private static void wallTwice() {
        Scene two = Scene.of(100, 300, 500, 300, 0, 100, 1000, 100, 0, 500, 1000, 500);
        two.sees("first and second", NONE, 0, 0);
        two.sees("first and second of three", NONE, 1, 1, 0);
        two.sees("second and third", NONE, 0, 1, 1);
        two.sees("all three", NONE, 0, 0, 0);
        two.sees("two of them", 1, 0, 1);
        two.sees("first and third are not side by side", 1, 0, 1, 0);
        two.sees("first and third, the other", 1, 1, 0, 1);
        HallHeard one = Scene.of(100, 300, 500, 300, 0, 500, 1000, 500).hall();
        due(12, "one wall has no row of two", one.paths(0, 0, 2), 0);
        due(12, "nor of three", one.paths(0, 0, 3), 0);
    }

    /** "from there to the IMAGE ahead likewise": a second bounce at the first one is not strictly between. */
    private static void corners() {
        int[] walls = {0, 0, 600, 0, 600, 0, 600, 400};
        Scene met = Scene.of(500, 100, 400, 200).and(walls);
        met.sees("met in the corner itself", NONE, 0, 1);
        met.sees("and the other way round", NONE, 1, 0);
        Scene nearer = Scene.of(500, 100, 401, 200).and(walls);
        nearer.sees("a little off the corner: the lower wall first", 1, 0, 1);
        nearer.sees("and not the other way round", NONE, 1, 0);
        Scene farther = Scene.of(500, 100, 399, 200).and(walls);
        farther.sees("a little off on the other side: the lower wall last", 1, 1, 0);
        farther.sees("and then not the other way round", NONE, 0, 1);
    }

    /** Two walls on one line are no two mirrors: the second bounce would be where the first is. */
    private static void wallsOnOneLine() {
        Scene across = Scene.of(100, 300, 500, 500, 0, 400, 1000, 400, 0, 400, 1000, 400);
        across.sees("on both sides", NONE, 0, 1);
        Scene beside = Scene.of(100, 300, 500, 300, 0, 400, 250, 400, 250, 400, 1000, 400);
        beside.sees("on one side", NONE, 0, 1);
        beside.sees("by the farther one", NONE, 0);
        beside.sees("by the nearer one", 1, 1);
        Scene end = Scene.of(100, 300, 400, 300, 0, 400, 250, 400, 250, 400, 1000, 400);
        end.sees("at the end of both, one hides the other", 0, 0);
        end.sees("and the other the one", 0, 1);
    }

    /** "if the leg has no length, neither", with more walls than one. */
    private static void imagesAtSeat() {
        Scene two = Scene.of(500, 100, 500, 300, 0, 200, 1000, 200, 0, 300, 1000, 300);
        two.sees("the second image is the seat", NONE, 0, 1);
        Scene three = Scene.of(100, 100, 100, 100, 0, 200, 1000, 200, 0, 300, 1000, 300, 0, 200, 1000, 200);
        three.sees("the third image is not", NONE, 0, 1, 2);
        Scene same = Scene.of(500, 300, 500, 300, 0, 200, 1000, 200, 0, 400, 1000, 400);
        same.sees("there, over and back", 1, 0, 1);
        same.sees("there, over, back and there", 1, 0, 1, 0);
    }

    /** "a WALL whose BOUNCE is at an end of the leg is not asked for that leg", but for the other legs it is. */
    private static void wallsOfRowHideOtherLegs() {
        int[] upper = {250, 200, 350, 200};
        Scene.of(100, 150, 500, 50, 100, 100, 433, 100).and(upper).sees("a third ahead of the leg", 1, 0, 1);
        Scene.of(100, 150, 500, 50, 100, 100, 434, 100).and(upper).sees("two thirds over the leg", 0, 0, 1);
        Scene.of(100, 150, 500, 50, 100, 100, 166, 100).and(upper).sees("no bounce by two thirds", NONE, 0, 1);
        Scene.of(100, 150, 500, 50, 100, 100, 167, 100).and(upper).sees("a bounce by a third", 1, 0, 1);
    }

    /** The leg between two bounces: hidden by a third wall alone. */
    private static void legBetweenBounces() {
        Scene two = Scene.of(100, 150, 500, 150, 0, 100, 1000, 100, 0, 200, 1000, 200);
        two.sees("free", 1, 0, 1);
        two.and(300, 150, 300, 190).sees("a screen's end on the leg between", 0, 0, 1);
        two.and(300, 151, 300, 190).sees("a screen's end 1 off the leg between", 1, 0, 1);
        two.and(150, 120, 150, 130).sees("a screen across the first leg", 0, 0, 1);
        two.and(450, 170, 450, 180).sees("a screen across the last leg", 0, 0, 1);
        two.and(200, 50, 200, 100).sees("another wall at the first bounce", 0, 0, 1);
        two.and(400, 200, 400, 250).sees("another wall at the second bounce", 0, 0, 1);
        two.and(400, 201, 400, 250).sees("another wall 1 behind the second bounce", 1, 0, 1);
    }

    /** Three bounces, each of them on the wall's end and beyond it. */
    private static void threeBounces() {
        int[] upper = {0, 200, 1000, 200};
        Scene.of(100, 150, 700, 150, 0, 100, 1000, 100).and(upper).sees("between long walls", 1, 0, 1, 0);
        Scene.of(100, 150, 700, 150, 200, 100, 600, 100).and(upper).sees("both ends are bounces", 1, 0, 1, 0);
        Scene.of(100, 150, 700, 150, 201, 100, 600, 100).and(upper).sees("1 beyond one end", NONE, 0, 1, 0);
        Scene.of(100, 150, 700, 150, 200, 100, 599, 100).and(upper).sees("1 beyond the other end", NONE, 0, 1, 0);
        Scene three = Scene.of(100, 150, 700, 150, 200, 100, 200, 0, 200, 100, 201, 100, 599, 100, 600, 100)
            .and(400, 200, 401, 200);
        three.sees("three walls of 1, another one at a bounce", 0, 1, 3, 2);
        Scene.of(100, 150, 700, 150, 200, 100, 201, 100, 400, 200, 401, 200, 599, 100, 600, 100)
            .sees("three walls of 1", 1, 0, 1, 2);
    }

    // ---- promise 12

    /** "of an order (0 .. 3; NONE: of all up to MOST): how many. UNKNOWN, OUTSIDE." */
    private static void asksForPaths() {
        Boundaries.range(12, "SOURCE", FURNISHED, 0, 1, UNKNOWN, (x, v) -> x.paths(v, 0, 0));
        Boundaries.range(12, "SEAT", FURNISHED, 0, 2, UNKNOWN, (x, v) -> x.paths(0, v, 0));
        Boundaries.range(12, "SOURCE of a full hall", FILLED, 0, 3, UNKNOWN, (x, v) -> x.paths(v, 7, NONE));
        Boundaries.range(12, "SEAT of a full hall", FILLED, 0, 7, UNKNOWN, (x, v) -> x.paths(3, v, NONE));
        Boundaries.range(12, "order", FURNISHED, NONE, 3, OUTSIDE, (x, v) -> x.paths(0, 0, v));
        Boundaries.refused(12, "no source, order 4", FURNISHED, UNKNOWN, x -> x.paths(2, 0, 4));
        Boundaries.refused(12, "no seat, order -2", FURNISHED, UNKNOWN, x -> x.paths(0, -1, -2));
        Boundaries.refused(12, "a new object, order 4", EMPTY, UNKNOWN, x -> x.paths(0, 0, 4));
        HallHeard noSeat = new HallHeard();
        noSeat.source(0, 0, 1);
        due(12, "a source, but no seat", noSeat.paths(0, 0, 0), UNKNOWN);
        HallHeard noSource = new HallHeard();
        noSource.seat(0, 0);
        due(12, "a seat, but no source", noSource.paths(0, 0, 0), UNKNOWN);
    }

    /** Whatever MOST is, each order can be asked for; NONE goes up to MOST and no further. */
    private static void pathsByOrder() {
        HallHeard x = Scene.of(100, 150, 500, 150, 0, 100, 1000, 100, 0, 200, 1000, 200).hall();
        int[] ofOrder = {1, 2, 2, 2};
        int sum = 0;
        for (int most = 0; most <= 3; most++) {
            x.rule(0, most);
            sum += ofOrder[most];
            due(12, "all up to " + most, x.paths(0, 0, NONE), sum);
            for (int order = 0; order <= 3; order++) due(12, "order " + order, x.paths(0, 0, order), ofOrder[order]);
        }
        while (x.count(0) > 0) x.back();
        int[] without = {1, 0, 0, 0};
        for (int order = 0; order <= 3; order++) due(12, "no walls, " + order, x.paths(0, 0, order), without[order]);
        due(12, "no walls, all", x.paths(0, 0, NONE), 1);
    }

    // ---- promise 13

    /** "NONE: there is none such. UNKNOWN, OUTSIDE: what." */
    private static void asksForPath() {
        Boundaries.range(13, "SOURCE", FURNISHED, 0, 1, UNKNOWN, (x, v) -> x.path(v, 0, 0, 0));
        Boundaries.range(13, "SEAT", FURNISHED, 0, 2, UNKNOWN, (x, v) -> x.path(0, v, 0, 0));
        Boundaries.range(13, "SOURCE of a full hall", FILLED, 0, 3, UNKNOWN, (x, v) -> x.path(v, 7, 0, 0));
        Boundaries.range(13, "SEAT of a full hall", FILLED, 0, 7, UNKNOWN, (x, v) -> x.path(3, v, 0, 0));
        Boundaries.range(13, "what", FURNISHED, 0, 6, OUTSIDE, (x, v) -> x.path(0, 0, 0, v));
        Boundaries.range(13, "what, of no path", FURNISHED, 0, 6, OUTSIDE, (x, v) -> x.path(0, 0, -1, v));
        Boundaries.refused(13, "no source, what 7", FURNISHED, UNKNOWN, x -> x.path(2, 0, 0, 7));
        Boundaries.refused(13, "no seat, what -1", FURNISHED, UNKNOWN, x -> x.path(0, 3, 0, -1));
        Boundaries.refused(13, "no seat, no path", FURNISHED, UNKNOWN, x -> x.path(0, 3, -1, 0));
        HallHeard x = FURNISHED.make();
        int all = x.paths(0, 0, NONE);
        for (int i : new int[] {-1, all, Integer.MIN_VALUE, Integer.MAX_VALUE}) {
            for (int what = 0; what <= 6; what++) due(13, "path " + i, x.path(0, 0, i, what), NONE);
        }
        due(13, "the last one has an order", x.path(0, 0, all - 1, 0), 3);
    }

    /** The count of paths ends with MOST; a hall without a path has none from 0 on. */
    private static void pathsBeyondMost() {
        HallHeard x = Scene.of(100, 150, 500, 150, 0, 100, 1000, 100, 0, 200, 1000, 200).hall();
        int[] upTo = {1, 3, 5, 7};
        for (int most = 0; most <= 3; most++) {
            x.rule(0, most);
            due(13, "the last one", x.path(0, 0, upTo[most] - 1, 0), most);
            due(13, "behind the last one", x.path(0, 0, upTo[most], 0), NONE);
        }
        HallHeard hidden = Scene.of(100, 150, 500, 150, 100, 150, 101, 150).hall();
        for (int what = 0; what <= 6; what++) due(13, "no path at all", hidden.path(0, 0, 0, what), NONE);
    }

    /** "1 to 3 its WALLS (NONE)": NONE behind the last wall, for each order. */
    private static void wallsOfPath() {
        HallHeard x = Scene.of(100, 150, 500, 150, 0, 100, 1000, 100, 0, 200, 1000, 200).hall();
        int[][] paths = {{0, NONE, NONE, NONE}, {1, 0, NONE, NONE}, {1, 1, NONE, NONE}, {2, 0, 1, NONE},
            {2, 1, 0, NONE}, {3, 0, 1, 0}, {3, 1, 0, 1}};
        for (int i = 0; i < paths.length; i++) {
            for (int what = 0; what <= 3; what++) due(13, "path " + i, x.path(0, 0, i, what), paths[i][what]);
        }
    }

    /** "ordered by order, then by their rows (the first WALL that differs)", in a full hall, walls 15 among them. */
    private static void orderOfPaths() {
        HallHeard x = new HallHeard();
        for (int k = 0; k < 12; k++) x.wall(50 + 75 * k, 500, 60 + 75 * k, 500, 0);
        x.wall(0, 1000, 0, 0, 0);
        x.wall(1000, 0, 0, 0, 0);
        x.wall(1000, 1000, 1000, 0, 0);
        x.wall(0, 1000, 1000, 1000, 0);
        x.source(130, 220, 1);
        x.seat(870, 310);
        x.rule(0, 3);
        int all = x.paths(0, 0, NONE);
        long before = -1;
        boolean last = false;
        for (int i = 0; i < all; i++) {
            long key = x.path(0, 0, i, 0);
            for (int place = 1; place <= 3; place++) {
                long wall = x.path(0, 0, i, place);
                last |= wall == 15;
                key = 17 * key + wall + 1;
            }
            due(13, "path " + i + " is behind the one ahead", key > before ? 1 : 0, 1);
            before = key;
        }
        due(13, "wall 15 is in a row", last ? 1 : 0, 1);
        due(13, "all orders are there", x.path(0, 0, all - 1, 0), 3);
    }

    /** "LENGTH SQUARED", "TICK: the whole root (cut) of LENGTH SQUARED, / 50": from 0 to the greatest. */
    private static void lengthsAndTicks() {
        int[][] places = {{0, 0, 0}, {1, 0, 0}, {47, 17, 0}, {49, 0, 0}, {50, 0, 1}, {30, 40, 1}, {99, 14, 1},
            {100, 0, 2}, {60, 80, 2}, {999, 44, 19}, {1000, 0, 20}, {600, 800, 20}, {1000, 1000, 28}};
        for (int[] p : places) {
            HallHeard x = Scene.of(0, 0, p[0], p[1]).hall();
            due(13, "LENGTH SQUARED", x.path(0, 0, 0, 4), p[0] * p[0] + p[1] * p[1]);
            due(13, "TICK of " + p[0] + ", " + p[1], x.path(0, 0, 0, 6), p[2]);
        }
        HallHeard far = Scene.of(1, 0, 1, 1000, 0, 0, 0, 1000, 1000, 0, 1000, 1000).hall();
        int last = far.paths(0, 0, NONE) - 1;
        due(13, "the greatest row", far.path(0, 0, last, 1), 1);
        due(13, "the greatest LENGTH SQUARED", far.path(0, 0, last, 4), 3998 * 3998 + 1000 * 1000);
        due(13, "the greatest TICK", far.path(0, 0, last, 6), 82);
    }

    /** "/ (LENGTH SQUARED and 1)": no division by 0, and the last place with ENERGY of a POWER of 1. */
    private static void energies() {
        int[][] places = {{0, 0, 1000000}, {1, 0, 500000}, {999, 44, 1}, {1000, 0, 0}, {1000, 1000, 0}};
        for (int[] p : places) {
            HallHeard x = new HallHeard();
            x.source(0, 0, 1);
            x.seat(p[0], p[1]);
            due(13, "ENERGY at " + p[0] + ", " + p[1], x.path(0, 0, 0, 5), p[2]);
        }
        HallHeard x = new HallHeard();
        x.stuff(0, 0);
        x.stuff(100, 0);
        x.wall(0, 100, 1000, 100, 2);
        x.source(500, 99, 1000);
        x.seat(500, 99);
        due(13, "the greatest ENERGY", x.path(0, 0, 0, 5), 1000000000);
        due(13, "SHARE 100, in longs", x.path(0, 0, 1, 5), 200000000);
        x.cover(0, 1);
        due(13, "SHARE 0", x.path(0, 0, 1, 5), 0);
        due(13, "it is a path all the same", x.path(0, 0, 1, 4), 4);
    }

    // ---- promise 14

    /** "UNKNOWN (the WALLS, too), OUTSIDE: NONE is ahead of a WALL." */
    private static void asksWhatIsSeen() {
        Boundaries.range(14, "SOURCE", FURNISHED, 0, 1, UNKNOWN, (x, v) -> x.sees(v, 0, 0, NONE, NONE));
        Boundaries.range(14, "SEAT", FURNISHED, 0, 2, UNKNOWN, (x, v) -> x.sees(0, v, 0, NONE, NONE));
        Boundaries.range(14, "a", FURNISHED, NONE, 4, UNKNOWN, (x, v) -> x.sees(0, 0, v, NONE, NONE));
        Boundaries.range(14, "b", FURNISHED, NONE, 4, UNKNOWN, (x, v) -> x.sees(0, 0, 2, v, NONE));
        Boundaries.range(14, "c", FURNISHED, NONE, 4, UNKNOWN, (x, v) -> x.sees(0, 0, 2, 1, v));
        Boundaries.range(14, "c of a full hall", FILLED, NONE, 15, UNKNOWN, (x, v) -> x.sees(3, 7, 15, 14, v));
        Boundaries.refused(14, "NONE ahead of b", FURNISHED, OUTSIDE, x -> x.sees(0, 0, NONE, 0, NONE));
        Boundaries.refused(14, "NONE ahead of c", FURNISHED, OUTSIDE, x -> x.sees(0, 0, NONE, NONE, 0));
        Boundaries.refused(14, "NONE between", FURNISHED, OUTSIDE, x -> x.sees(0, 0, 0, NONE, 1));
        Boundaries.refused(14, "NONE between the same", FURNISHED, OUTSIDE, x -> x.sees(0, 0, 0, NONE, 0));
        Boundaries.refused(14, "NONE ahead of both", FURNISHED, OUTSIDE, x -> x.sees(0, 0, NONE, 0, 1));
        Boundaries.refused(14, "NONE ahead of a wall that is twice", FURNISHED, OUTSIDE,
            x -> x.sees(0, 0, NONE, 1, 1));
        Boundaries.refused(14, "NONE ahead of no wall", FURNISHED, UNKNOWN, x -> x.sees(0, 0, NONE, 5, NONE));
        Boundaries.refused(14, "NONE between, and no wall", FURNISHED, UNKNOWN, x -> x.sees(0, 0, 0, NONE, -2));
        Boundaries.refused(14, "no wall twice", FURNISHED, UNKNOWN, x -> x.sees(0, 0, 5, 5, NONE));
        Boundaries.refused(14, "a wall twice and no wall", FURNISHED, UNKNOWN, x -> x.sees(0, 0, 0, 0, 5));
        Boundaries.refused(14, "no source, NONE ahead", FURNISHED, UNKNOWN, x -> x.sees(2, 0, NONE, 0, NONE));
        Boundaries.refused(14, "no seat, a wall twice", FURNISHED, UNKNOWN, x -> x.sees(0, 3, 0, 0, NONE));
    }

    /** MOST is for what is heard: sees tells of three walls whatever it is. */
    private static void seesBeyondMost() {
        HallHeard x = Scene.of(100, 150, 500, 150, 0, 100, 1000, 100, 0, 200, 1000, 200).hall();
        for (int most = 0; most <= 3; most++) {
            x.rule(0, most);
            due(14, "order 0", x.sees(0, 0, NONE, NONE, NONE), 1);
            due(14, "order 3", x.sees(0, 0, 0, 1, 0), 1);
        }
    }

    /** A row that was asked for is not lengthened by the next call, nor is one that was searched. */
    private static void callsByThemselves() {
        HallHeard x = Scene.of(100, 150, 500, 150, 0, 100, 1000, 100, 0, 200, 1000, 200, 700, 0, 700, 99).hall();
        int[][] rows = {{0, 1, 0}, {NONE, NONE, NONE}, {1, NONE, NONE}, {2, NONE, NONE}, {0, 1, NONE}, {1, 0, 1}};
        int[] wants = {1, 1, 1, NONE, 1, 1};
        for (int before = 0; before <= 3; before++) {
            for (int k = 0; k < rows.length; k++) {
                due(14, "one behind another", x.sees(0, 0, rows[k][0], rows[k][1], rows[k][2]), wants[k]);
                x.paths(0, 0, before);
                due(14, "behind a search", x.sees(0, 0, rows[k][0], rows[k][1], rows[k][2]), wants[k]);
            }
            due(12, "behind all of them", x.paths(0, 0, NONE), 7);
        }
    }

    public static void main(String[] args) {
        legOfNoLength();
        wallAcrossLeg();
        wallAlongLeg();
        wallsAndLegAslant();
        bounceOnWall();
        legThatDoesNotCross();
        legToImageOfNoLength();
        legsHidden();
        wallsAtBounce();
        wallsOnLineOfLeg();
        wallTwice();
        corners();
        wallsOnOneLine();
        imagesAtSeat();
        wallsOfRowHideOtherLegs();
        legBetweenBounces();
        threeBounces();
        asksForPaths();
        pathsByOrder();
        asksForPath();
        pathsBeyondMost();
        wallsOfPath();
        orderOfPaths();
        lengthsAndTicks();
        energies();
        asksWhatIsSeen();
        seesBeyondMost();
        callsByThemselves();
        Boundaries.end("boundaries of paths");
    }
}
