/** The boundaries of promises 1 to 11, sentence by sentence: what there is in the hall, and the hall's balance. */
public final class BoundariesOfHallTest {
    private static final int UNKNOWN = Boundaries.UNKNOWN, OUTSIDE = Boundaries.OUTSIDE, NOT = Boundaries.NOT,
        FULL = Boundaries.FULL, NONE = Boundaries.NONE;
    private static final Boundaries.Hall EMPTY = Boundaries.EMPTY;
    private static final Boundaries.Hall FURNISHED = Boundaries.FURNISHED;
    private static final Boundaries.Hall FILLED = Boundaries.FILLED;

    private static void due(int promise, String sentence, long got, long want) {
        Boundaries.due(promise, sentence, got, want);
    }

    // ---- promise 1

    /** "No WALLS, SOURCES, SEATS; STUFF 0": nothing has number 0 but the stuff. */
    private static void newObjectIsEmpty() {
        int[] counts = {0, 1, 0, 0, 0, 0, 0};
        HallHeard x = new HallHeard();
        for (int what = 0; what < 7; what++) due(1, "new: count " + what, x.count(what), counts[what]);
        Boundaries.refused(1, "new: back", EMPTY, NOT, h -> h.back());
        Boundaries.refused(1, "new: told", EMPTY, UNKNOWN, h -> h.told(0, 0));
        Boundaries.refused(1, "new: cover", EMPTY, UNKNOWN, h -> h.cover(0, 0));
        Boundaries.refused(1, "new: move a source", EMPTY, UNKNOWN, h -> h.move(0, 0, 0, 0));
        Boundaries.refused(1, "new: move a seat", EMPTY, UNKNOWN, h -> h.move(0, 1, 0, 0));
        Boundaries.refused(1, "new: paths", EMPTY, UNKNOWN, h -> h.paths(0, 0, NONE));
        Boundaries.refused(1, "new: path", EMPTY, UNKNOWN, h -> h.path(0, 0, 0, 0));
        Boundaries.refused(1, "new: sees", EMPTY, UNKNOWN, h -> h.sees(0, 0, NONE, NONE, NONE));
        Boundaries.refused(1, "new: heard", EMPTY, UNKNOWN, h -> h.heard(0, 0, 0));
        Boundaries.refused(1, "new: at", EMPTY, UNKNOWN, h -> h.at(0, 0, 0));
        Boundaries.refused(1, "new: worst", EMPTY, UNKNOWN, h -> h.worst(0));
        Boundaries.refused(1, "new: best", EMPTY, UNKNOWN, h -> h.best(0, 0, 0, 0, 0));
        due(1, "new: left", x.left(1000000000000L, 100), 1000000000000L);
    }

    /** "STUFF 0 is there at first, with SHARE 80, COST 0", "2 at first", "4 at first". */
    private static void allIsAsAtFirst() {
        HallHeard x = new HallHeard();
        due(1, "stuff 0 is there", x.wall(0, 0, 1000, 0, 0), 0);
        due(1, "SHARE 80", x.count(5), 200);
        x.source(300, 120, 1000);
        x.seat(400, 120);
        due(1, "SHARE 80 of the ENERGY", x.path(0, 0, 1, 5), 800000000L / 67601);
        due(1, "COST 0", x.best(0, 0, 1, 0, 1), 0);
        due(1, "MOST is 2", x.rule(0, 2), 2);
        due(1, "BORDER is 4", x.rule(1, 4), 4);
        x.wall(0, 500, 1000, 500, 0);
        due(1, "MOST 2 has order 2, not 3", x.paths(0, 0, NONE), 1 + 2 + 2);
        HallHeard other = new HallHeard();
        due(1, "another object has nothing of this one", other.count(0) + other.count(2) + other.count(3), 0);
    }

    // ---- promise 2

    /** "SHARE (0 .. 100)", "COST 0 .. 1000", and both ends are what they say. */
    private static void sharesAndCosts() {
        Boundaries.range(2, "SHARE", FURNISHED, 0, 100, OUTSIDE, (x, v) -> x.stuff(v, 5));
        Boundaries.range(2, "COST", FURNISHED, 0, 1000, OUTSIDE, (x, v) -> x.stuff(50, v));
        HallHeard x = new HallHeard();
        due(2, "SHARE 0, COST 1000", x.stuff(0, 1000), 1);
        due(2, "SHARE 100, COST 0", x.stuff(100, 0), 2);
        x.wall(0, 0, 1000, 0, 1);
        due(2, "SHARE 0 loses all", x.count(5), 1000);
        x.cover(0, 2);
        due(2, "SHARE 100 loses nothing", x.count(5), 0);
        x.source(300, 120, 1000);
        x.seat(400, 120);
        due(2, "SHARE 100 sends all back", x.path(0, 0, 1, 5), 1000000000L / 67601);
        x.rule(1, 1);
        due(2, "COST 1000 of length 1000", x.best(0, 0, 1, 1000000, 1), 10000);
        x.cover(0, 1);
        due(2, "SHARE 0 sends nothing back", x.path(0, 0, 1, 5), 0);
    }

    /** "8 at most": the eighth is there, the ninth is not; OUTSIDE is ahead of FULL. */
    private static void stuffsAtMost() {
        HallHeard x = new HallHeard();
        for (int number = 1; number < 8; number++) due(2, "stuff by stuff", x.stuff(10 * number, number), number);
        due(2, "eight", x.count(1), 8);
        due(2, "the eighth is of use", x.wall(0, 0, 100, 0, 7), 0);
        due(2, "the eighth has its SHARE", x.count(5), 30);
        Boundaries.refused(2, "ninth", FILLED, FULL, h -> h.stuff(50, 50));
        Boundaries.refused(2, "ninth, SHARE -1", FILLED, OUTSIDE, h -> h.stuff(-1, 50));
        Boundaries.refused(2, "ninth, SHARE 101", FILLED, OUTSIDE, h -> h.stuff(101, 50));
        Boundaries.refused(2, "ninth, COST -1", FILLED, OUTSIDE, h -> h.stuff(50, -1));
        Boundaries.refused(2, "ninth, COST 1001", FILLED, OUTSIDE, h -> h.stuff(50, 1001));
        Boundaries.refused(2, "ninth at the ends of the ranges", FILLED, FULL, h -> h.stuff(100, 1000));
    }

    // ---- promise 3

    /** "coordinates 0 to 1000", each of the four by itself. */
    private static void coordinatesOfWalls() {
        Boundaries.range(3, "x0", FURNISHED, 0, 1000, OUTSIDE, (x, v) -> x.wall(v, 7, 500, 7, 0));
        Boundaries.range(3, "y0", FURNISHED, 0, 1000, OUTSIDE, (x, v) -> x.wall(7, v, 7, 500, 0));
        Boundaries.range(3, "x1", FURNISHED, 0, 1000, OUTSIDE, (x, v) -> x.wall(500, 7, v, 7, 0));
        Boundaries.range(3, "y1", FURNISHED, 0, 1000, OUTSIDE, (x, v) -> x.wall(7, 500, 7, v, 0));
        Boundaries.range(3, "both x", FURNISHED, 0, 1000, OUTSIDE, (x, v) -> x.wall(v, 7, v, 500, 0));
        Boundaries.range(3, "both y", FURNISHED, 0, 1000, OUTSIDE, (x, v) -> x.wall(7, v, 500, v, 0));
        Boundaries.range(3, "STUFF", FURNISHED, 0, 2, UNKNOWN, (x, v) -> x.wall(7, 7, 500, 7, v));
        Boundaries.range(3, "STUFF of a new object", EMPTY, 0, 0, UNKNOWN, (x, v) -> x.wall(7, 7, 500, 7, v));
    }

    /** "along x or y, not of length 0": length 1 is enough, and a step of 1 aside is too much. */
    private static void directionsOfWalls() {
        int[][] points = {{0, 0}, {1000, 1000}, {0, 1000}, {500, 300}};
        for (int[] p : points) {
            Boundaries.refused(3, "of length 0", FURNISHED, OUTSIDE, x -> x.wall(p[0], p[1], p[0], p[1], 0));
        }
        Boundaries.refused(3, "aslant by 1", FURNISHED, OUTSIDE, x -> x.wall(0, 0, 1000, 1, 0));
        Boundaries.refused(3, "aslant by 1 across", FURNISHED, OUTSIDE, x -> x.wall(1, 0, 0, 1000, 0));
        Boundaries.refused(3, "aslant, 1 by 1", FURNISHED, OUTSIDE, x -> x.wall(5, 5, 6, 6, 0));
        HallHeard x = new HallHeard();
        int[][] ones = {{5, 5, 6, 5}, {6, 5, 5, 5}, {5, 5, 5, 6}, {5, 6, 5, 5}};
        for (int k = 0; k < 4; k++) {
            due(3, "of length 1", x.wall(ones[k][0], ones[k][1], ones[k][2], ones[k][3], 0), k);
            due(3, "its length", x.told(k, 5), 1);
        }
        due(3, "from edge to edge", x.wall(1000, 1000, 0, 1000, 0), 4);
        due(3, "its length", x.told(4, 5), 1000);
    }

    /** "WALLS may cross, or lie on one another." */
    private static void wallsMayMeet() {
        HallHeard x = new HallHeard();
        due(3, "one", x.wall(100, 100, 200, 100, 0), 0);
        due(3, "the same", x.wall(100, 100, 200, 100, 0), 1);
        due(3, "the same backwards", x.wall(200, 100, 100, 100, 0), 2);
        due(3, "a part of it", x.wall(120, 100, 130, 100, 0), 3);
        due(3, "across it", x.wall(150, 50, 150, 150, 0), 4);
        due(3, "from its end on", x.wall(200, 100, 200, 300, 0), 5);
        due(3, "all of their lengths are in LINE", x.count(4), 100 + 100 + 100 + 10 + 100 + 200);
    }

    /** "16 at most", and the order of refusals UNKNOWN, OUTSIDE, FULL. */
    private static void wallsAtMost() {
        HallHeard x = new HallHeard();
        for (int number = 0; number < 16; number++) {
            due(3, "wall by wall", x.wall(number, 0, number, 10 + number, 0), number);
        }
        due(3, "sixteen", x.count(0), 16);
        due(3, "the last one is there", x.told(15, 5), 25);
        Boundaries.refused(3, "seventeenth", FILLED, FULL, h -> h.wall(0, 0, 1, 0, 7));
        Boundaries.refused(3, "seventeenth, x0 -1", FILLED, OUTSIDE, h -> h.wall(-1, 0, 1, 0, 7));
        Boundaries.refused(3, "seventeenth, y1 1001", FILLED, OUTSIDE, h -> h.wall(0, 0, 0, 1001, 7));
        Boundaries.refused(3, "seventeenth, aslant", FILLED, OUTSIDE, h -> h.wall(0, 0, 1, 1, 7));
        Boundaries.refused(3, "seventeenth, of length 0", FILLED, OUTSIDE, h -> h.wall(3, 3, 3, 3, 7));
        Boundaries.refused(3, "seventeenth, of no stuff", FILLED, UNKNOWN, h -> h.wall(0, 0, 1, 0, 8));
        Boundaries.refused(3, "all at once", FILLED, UNKNOWN, h -> h.wall(-1, 0, 1, 5, -1));
        Boundaries.refused(3, "no stuff and outside", FURNISHED, UNKNOWN, h -> h.wall(0, 0, 1001, 0, 3));
        Boundaries.refused(3, "no stuff and of length 0", FURNISHED, UNKNOWN, h -> h.wall(4, 4, 4, 4, -1));
        HallHeard y = FILLED.make();
        y.back();
        due(3, "room for one again", y.wall(0, 0, 1, 0, 7), 15);
        due(3, "and no more", y.wall(0, 0, 1, 0, 7), FULL);
    }

    // ---- promise 4

    /** "A WALL becomes of a STUFF: what it was. UNKNOWN." */
    private static void covers() {
        Boundaries.range(4, "WALL", FURNISHED, 0, 4, UNKNOWN, (x, v) -> x.cover(v, 1));
        Boundaries.range(4, "STUFF", FURNISHED, 0, 2, UNKNOWN, (x, v) -> x.cover(4, v));
        Boundaries.range(4, "WALL of a full hall", FILLED, 0, 15, UNKNOWN, (x, v) -> x.cover(v, 1));
        Boundaries.range(4, "STUFF of a full hall", FILLED, 0, 7, UNKNOWN, (x, v) -> x.cover(15, v));
        Boundaries.refused(4, "both unknown", FURNISHED, UNKNOWN, x -> x.cover(5, 3));
        HallHeard x = FURNISHED.make();
        due(4, "it was of stuff 2", x.cover(3, 2), 2);
        due(4, "the same stuff again", x.cover(3, 0), 2);
        due(4, "now of another one", x.told(3, 4), 0);
        due(4, "the one ahead is as it was", x.told(2, 4), 0);
        due(4, "the one behind is as it was", x.told(4, 4), 0);
        due(4, "its place is as it was", x.told(3, 1), 400);
        x.back();
        due(4, "a wall that is there no more", x.cover(4, 0), UNKNOWN);
    }

    // ---- promise 5

    /** "The last WALL is there no more: how many are left. NOT: there is none." */
    private static void backs() {
        Boundaries.refused(5, "none", EMPTY, NOT, h -> h.back());
        HallHeard x = FILLED.make();
        for (int left = 15; left >= 0; left--) {
            due(5, "one after another", x.back(), left);
            due(5, "it is there no more", x.told(left, 0), UNKNOWN);
            due(5, "so many are left", x.count(0), left);
        }
        due(5, "none is left", x.back(), NOT);
        due(5, "and none again", x.back(), NOT);
        due(5, "LINE", x.count(4), 0);
        due(5, "DECAY", x.count(6), 0);
        due(5, "stuffs stay", x.count(1), 8);
        due(5, "sources stay", x.count(2), 4);
        due(5, "seats stay", x.count(3), 8);
        due(5, "number 0 comes again", x.wall(9, 9, 9, 19, 5), 0);
        int[] told = {9, 9, 9, 19, 5, 10};
        for (int what = 0; what < 6; what++) due(5, "with nothing of the former one", x.told(0, what), told[what]);
    }

    /** A wall that is there no more neither mirrors nor hides, and no call knows its number. */
    private static void backIsHeard() {
        HallHeard x = new HallHeard();
        x.source(300, 120, 1000);
        x.seat(400, 120);
        x.wall(0, 0, 1000, 0, 0);
        x.wall(350, 0, 350, 1000, 0);
        due(5, "hidden", x.paths(0, 0, NONE), 0);
        x.back();
        due(5, "not hidden any more", x.paths(0, 0, NONE), 2);
        due(5, "sees does not know it", x.sees(0, 0, 1, NONE, NONE), UNKNOWN);
        due(5, "best does not know it", x.best(0, 0, 2, 0, 0), OUTSIDE);
        x.back();
        due(5, "not mirrored any more", x.paths(0, 0, NONE), 1);
    }

    // ---- promises 6 and 7

    /** "POWER (1 .. 1000)", "SOURCES (4 at most)". */
    private static void sources() {
        Boundaries.range(6, "x", FURNISHED, 0, 1000, OUTSIDE, (x, v) -> x.source(v, 5, 5));
        Boundaries.range(6, "y", FURNISHED, 0, 1000, OUTSIDE, (x, v) -> x.source(5, v, 5));
        Boundaries.range(6, "POWER", FURNISHED, 1, 1000, OUTSIDE, (x, v) -> x.source(5, 5, v));
        HallHeard x = new HallHeard();
        for (int number = 0; number < 4; number++) due(6, "source by source", x.source(7, 7, 1 + 333 * number), number);
        due(6, "four", x.count(2), 4);
        x.seat(7, 7);
        due(6, "the least POWER", x.heard(0, 0, 0), 1000000);
        due(6, "the greatest POWER", x.heard(3, 0, 0), 1000000000);
        Boundaries.refused(6, "fifth", FILLED, FULL, h -> h.source(1000, 1000, 1000));
        Boundaries.refused(6, "fifth at the least", FILLED, FULL, h -> h.source(0, 0, 1));
        Boundaries.refused(6, "fifth, x -1", FILLED, OUTSIDE, h -> h.source(-1, 0, 1));
        Boundaries.refused(6, "fifth, y 1001", FILLED, OUTSIDE, h -> h.source(0, 1001, 1));
        Boundaries.refused(6, "fifth, POWER 0", FILLED, OUTSIDE, h -> h.source(0, 0, 0));
        Boundaries.refused(6, "fifth, POWER 1001", FILLED, OUTSIDE, h -> h.source(0, 0, 1001));
    }

    /** "SEATS (8 at most)". */
    private static void seats() {
        Boundaries.range(7, "x", FURNISHED, 0, 1000, OUTSIDE, (x, v) -> x.seat(v, 5));
        Boundaries.range(7, "y", FURNISHED, 0, 1000, OUTSIDE, (x, v) -> x.seat(5, v));
        HallHeard x = new HallHeard();
        for (int number = 0; number < 8; number++) due(7, "seat by seat", x.seat(number, 0), number);
        due(7, "eight", x.count(3), 8);
        x.source(0, 0, 1);
        due(7, "the first", x.path(0, 0, 0, 4), 0);
        due(7, "the eighth", x.path(0, 7, 0, 4), 49);
        Boundaries.refused(7, "ninth", FILLED, FULL, h -> h.seat(1000, 1000));
        Boundaries.refused(7, "ninth at the least", FILLED, FULL, h -> h.seat(0, 0));
        Boundaries.refused(7, "ninth, x 1001", FILLED, OUTSIDE, h -> h.seat(1001, 0));
        Boundaries.refused(7, "ninth, y -1", FILLED, OUTSIDE, h -> h.seat(0, -1));
    }

    /** Points may lie anywhere: on one another, and on walls. */
    private static void pointsMayMeet() {
        HallHeard x = new HallHeard();
        x.wall(0, 0, 1000, 0, 0);
        due(6, "a source on a wall", x.source(0, 0, 1), 0);
        due(6, "another one there", x.source(0, 0, 1), 1);
        due(7, "a seat there", x.seat(0, 0), 0);
        due(7, "another one there", x.seat(0, 0), 1);
    }

    // ---- promise 8

    /** "A SOURCE (what = 0), a SEAT (1) is at (x, y) from now on", "With another what: OUTSIDE alone". */
    private static void moves() {
        Boundaries.range(8, "source", FURNISHED, 0, 1, UNKNOWN, (x, v) -> x.move(v, 0, 5, 5));
        Boundaries.range(8, "seat", FURNISHED, 0, 2, UNKNOWN, (x, v) -> x.move(v, 1, 5, 5));
        Boundaries.range(8, "source of a full hall", FILLED, 0, 3, UNKNOWN, (x, v) -> x.move(v, 0, 5, 5));
        Boundaries.range(8, "seat of a full hall", FILLED, 0, 7, UNKNOWN, (x, v) -> x.move(v, 1, 5, 5));
        Boundaries.range(8, "what", FURNISHED, 0, 1, OUTSIDE, (x, v) -> x.move(0, v, 5, 5));
        Boundaries.range(8, "another what of no number", FURNISHED, 0, 1, OUTSIDE,
            (x, v) -> x.move(v == 0 || v == 1 ? 0 : 9, v, 5, 5));
        Boundaries.range(8, "x of a source", FURNISHED, 0, 1000, OUTSIDE, (x, v) -> x.move(1, 0, v, 5));
        Boundaries.range(8, "y of a source", FURNISHED, 0, 1000, OUTSIDE, (x, v) -> x.move(1, 0, 5, v));
        Boundaries.range(8, "x of a seat", FURNISHED, 0, 1000, OUTSIDE, (x, v) -> x.move(2, 1, v, 5));
        Boundaries.range(8, "y of a seat", FURNISHED, 0, 1000, OUTSIDE, (x, v) -> x.move(2, 1, 5, v));
        Boundaries.refused(8, "no source, and outside", FURNISHED, UNKNOWN, x -> x.move(2, 0, -1, 5));
        Boundaries.refused(8, "no seat, and outside", FURNISHED, UNKNOWN, x -> x.move(-1, 1, 5, 1001));
        Boundaries.refused(8, "a new object, another what", EMPTY, OUTSIDE, x -> x.move(0, 2, 0, 0));
        Boundaries.refused(8, "a new object, another what, and outside", EMPTY, OUTSIDE, x -> x.move(0, -1, -1, -1));
    }

    /** From now on it is there, and only it; a source keeps its power. */
    private static void movesMoveOne() {
        HallHeard x = new HallHeard();
        x.source(0, 0, 10);
        x.source(0, 0, 1000);
        x.seat(0, 0);
        x.seat(3, 4);
        due(8, "to the far corner", x.move(1, 0, 1000, 1000), 1);
        due(8, "it is there", x.path(1, 0, 0, 4), 2000000);
        due(8, "the other source is where it was", x.path(0, 0, 0, 4), 0);
        due(8, "the seats are where they were", x.path(0, 1, 0, 4), 25);
        due(8, "its POWER is as it was", x.path(1, 0, 0, 5), 1000000000L / 2000001);
        due(8, "a seat to the source", x.move(1, 1, 1000, 1000), 1);
        due(8, "the seat is there", x.path(1, 1, 0, 4), 0);
        due(8, "the other seat is where it was", x.path(0, 0, 0, 4), 0);
        due(8, "to where it is", x.move(1, 1, 1000, 1000), 1);
        due(8, "as many as there were", 10 * x.count(2) + x.count(3), 22);
    }

    // ---- promise 9

    /** "MOST (0 .. 3)", "BORDER (1 .. 100)": "becomes v: what it was". */
    private static void rules() {
        Boundaries.range(9, "MOST", FURNISHED, 0, 3, OUTSIDE, (x, v) -> x.rule(0, v));
        Boundaries.range(9, "BORDER", FURNISHED, 1, 100, OUTSIDE, (x, v) -> x.rule(1, v));
        Boundaries.range(9, "what", FURNISHED, 0, 1, OUTSIDE, (x, v) -> x.rule(v, 1));
        Boundaries.refused(9, "BORDER 0, which MOST may be", FURNISHED, OUTSIDE, x -> x.rule(1, 0));
        Boundaries.refused(9, "MOST 100, which BORDER may be", FURNISHED, OUTSIDE, x -> x.rule(0, 100));
        Boundaries.refused(9, "both outside", FURNISHED, OUTSIDE, x -> x.rule(2, -1));
        HallHeard x = new HallHeard();
        int[] mosts = {2, 0, 3, 3, 1};
        for (int k = 1; k < mosts.length; k++) due(9, "MOST was", x.rule(0, mosts[k]), mosts[k - 1]);
        int[] borders = {4, 1, 100, 100, 2};
        for (int k = 1; k < borders.length; k++) due(9, "BORDER was", x.rule(1, borders[k]), borders[k - 1]);
        due(9, "MOST is by itself", x.rule(0, 1), 1);
    }

    // ---- promise 10

    /** "what = 0 to 3 its coordinates as told, 4 its STUFF, 5 its length". */
    private static void tells() {
        Boundaries.range(10, "WALL", FURNISHED, 0, 4, UNKNOWN, (x, v) -> x.told(v, 0));
        Boundaries.range(10, "WALL of a full hall", FILLED, 0, 15, UNKNOWN, (x, v) -> x.told(v, 5));
        Boundaries.range(10, "what", FURNISHED, 0, 5, OUTSIDE, (x, v) -> x.told(4, v));
        Boundaries.refused(10, "no wall, what 6", FURNISHED, UNKNOWN, x -> x.told(5, 6));
        Boundaries.refused(10, "no wall, what -1", FURNISHED, UNKNOWN, x -> x.told(-1, -1));
        Boundaries.refused(10, "a new object, what 6", EMPTY, UNKNOWN, x -> x.told(0, 6));
        int[][] walls = {{0, 0, 1000, 0}, {1000, 0, 0, 0}, {1000, 0, 1000, 1000}, {1000, 1000, 1000, 0}};
        HallHeard x = new HallHeard();
        for (int k = 0; k < 4; k++) {
            x.wall(walls[k][0], walls[k][1], walls[k][2], walls[k][3], 0);
            for (int what = 0; what < 4; what++) due(10, "as told, not turned", x.told(k, what), walls[k][what]);
            due(10, "STUFF", x.told(k, 4), 0);
            due(10, "length is no less than 0", x.told(k, 5), 1000);
        }
    }

    // ---- promise 11

    /** "How many: 0 WALLS, 1 STUFFS, 2 SOURCES, 3 SEATS, 4 LINE, 5 LOST, 6 DECAY. OUTSIDE." */
    private static void counts() {
        Boundaries.range(11, "what", FURNISHED, 0, 6, OUTSIDE, (x, v) -> x.count(v));
        Boundaries.range(11, "what of a new object", EMPTY, 0, 6, OUTSIDE, (x, v) -> x.count(v));
        int[] furnished = {5, 3, 2, 3, 2070, 120 + 280 + 120 + 400 + 14, 1000 * 934 / 2070};
        int[] full = {16, 8, 4, 8};
        HallHeard x = FURNISHED.make();
        HallHeard y = FILLED.make();
        for (int what = 0; what < 7; what++) due(11, "count " + what, x.count(what), furnished[what]);
        for (int what = 0; what < 4; what++) due(11, "full: count " + what, y.count(what), full[what]);
    }

    /** "DECAY: 1000 LOST / LINE (0 without WALLS)": from 0 to 1000, for walls as many and as long as may be. */
    private static void balanceAtItsEnds() {
        HallHeard x = new HallHeard();
        x.stuff(0, 0);
        x.stuff(100, 0);
        due(11, "DECAY without walls", x.count(6), 0);
        for (int k = 0; k < 16; k++) x.wall(0, k, 1000, k, 1);
        due(11, "the greatest LINE", x.count(4), 16000);
        due(11, "the greatest LOST", x.count(5), 16000);
        due(11, "the greatest DECAY", x.count(6), 1000);
        for (int k = 0; k < 16; k++) x.cover(k, 2);
        due(11, "the least LOST", x.count(5), 0);
        due(11, "the least DECAY", x.count(6), 0);
    }

    /** "of each WALL its length times (100 less SHARE), / 100, in all": cut for each. */
    private static void lostIsCut() {
        HallHeard x = new HallHeard();
        for (int k = 0; k < 16; k++) x.wall(k, 0, k, 4, 0);
        due(11, "16 times 80 / 100", x.count(5), 0);
        due(11, "DECAY of no LOST", x.count(6), 0);
        x.back();
        x.wall(15, 0, 15, 5, 0);
        due(11, "100 / 100 is 1", x.count(5), 1);
        due(11, "1000 / 65", x.count(6), 15);
        HallHeard y = new HallHeard();
        y.stuff(1, 0);
        y.wall(0, 0, 1, 0, 1);
        due(11, "99 / 100", y.count(5), 0);
        y.wall(0, 0, 2, 0, 1);
        due(11, "198 / 100", y.count(5), 1);
        due(11, "1000 / 3", y.count(6), 333);
    }

    public static void main(String[] args) {
        newObjectIsEmpty();
        allIsAsAtFirst();
        sharesAndCosts();
        stuffsAtMost();
        coordinatesOfWalls();
        directionsOfWalls();
        wallsMayMeet();
        wallsAtMost();
        covers();
        backs();
        backIsHeard();
        sources();
        seats();
        pointsMayMeet();
        moves();
        movesMoveOne();
        rules();
        tells();
        counts();
        balanceAtItsEnds();
        lostIsCut();
        Boundaries.end("boundaries of what there is");
    }
}
