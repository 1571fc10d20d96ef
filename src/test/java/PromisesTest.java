/** Promise by promise: ordinary calls, the edges that the document names, and wrong calls. */
public final class PromisesTest {
    private static final int NONE = -1, UNKNOWN = -1001, OUTSIDE = -1002, NOT = -1003, FULL = -1004;
    private static int wrong = 0;

    private static void due(int promise, String what, long got, long want) {
        if (got != want) {
            wrong++;
            System.out.println("promise " + promise + ": " + what + " answered " + got + ", due is " + want);
        }
    }

    /** A room of 600 by 400, its walls 0 to 3 all round from the lower one on. */
    private static HallHeard room() {
        HallHeard x = new HallHeard();
        x.wall(0, 0, 600, 0, 0);
        x.wall(600, 0, 600, 400, 0);
        x.wall(600, 400, 0, 400, 0);
        x.wall(0, 400, 0, 0, 0);
        return x;
    }

    /** No walls: a source at (sx, sy) with power 1000 and a seat at (tx, ty). */
    private static HallHeard open(int sx, int sy, int tx, int ty) {
        HallHeard x = new HallHeard();
        x.source(sx, sy, 1000);
        x.seat(tx, ty);
        return x;
    }

    private static void constants() {
        due(1, "NONE", HallHeard.NONE, NONE);
        due(1, "UNKNOWN", HallHeard.UNKNOWN, UNKNOWN);
        due(1, "OUTSIDE", HallHeard.OUTSIDE, OUTSIDE);
        due(1, "NOT", HallHeard.NOT, NOT);
        due(1, "FULL", HallHeard.FULL, FULL);
    }

    private static void newObject() {
        HallHeard x = new HallHeard();
        int[] counts = {0, 1, 0, 0, 0, 0, 0};
        for (int what = 0; what < counts.length; what++) due(1, "count " + what, x.count(what), counts[what]);
        due(1, "no wall", x.told(0, 0), UNKNOWN);
        due(1, "no source", x.worst(0), UNKNOWN);
        due(1, "MOST at first", x.rule(0, 1), 2);
        due(1, "BORDER at first", x.rule(1, 9), 4);
        due(1, "left without walls", x.left(77, 100), 77);
        HallHeard other = new HallHeard();
        due(1, "another object has its own MOST", other.rule(0, 2), 2);
        other.wall(0, 0, 100, 0, 0);
        due(1, "another object's wall", x.count(0), 0);
        due(1, "share of stuff 0", other.count(5), 20);
        other.source(0, 50, 1);
        other.seat(100, 50);
        due(1, "cost of stuff 0", other.best(0, 0, 1, 0, 1), 0);
    }

    private static void stuff() {
        HallHeard x = new HallHeard();
        due(2, "share -1", x.stuff(-1, 0), OUTSIDE);
        due(2, "share 101", x.stuff(101, 0), OUTSIDE);
        due(2, "cost -1", x.stuff(0, -1), OUTSIDE);
        due(2, "cost 1001", x.stuff(0, 1001), OUTSIDE);
        due(2, "nothing came of it", x.count(1), 1);
        due(2, "least", x.stuff(0, 0), 1);
        due(2, "greatest", x.stuff(100, 1000), 2);
        for (int number = 3; number < 8; number++) due(2, "stuff " + number, x.stuff(50, 10), number);
        due(2, "ninth", x.stuff(50, 10), FULL);
        due(2, "OUTSIDE is ahead of FULL", x.stuff(50, 1001), OUTSIDE);
        due(2, "eight", x.count(1), 8);
    }

    private static void wall() {
        HallHeard x = new HallHeard();
        due(3, "stuff -1", x.wall(0, 0, 10, 0, -1), UNKNOWN);
        due(3, "stuff 1", x.wall(0, 0, 10, 0, 1), UNKNOWN);
        due(3, "UNKNOWN is ahead of OUTSIDE", x.wall(-1, 0, 10, 10, 1), UNKNOWN);
        due(3, "x0 -1", x.wall(-1, 0, 10, 0, 0), OUTSIDE);
        due(3, "y0 1001", x.wall(5, 1001, 5, 0, 0), OUTSIDE);
        due(3, "x1 1001", x.wall(0, 0, 1001, 0, 0), OUTSIDE);
        due(3, "y1 -1", x.wall(5, 5, 5, -1, 0), OUTSIDE);
        due(3, "aslant", x.wall(0, 0, 1, 1, 0), OUTSIDE);
        due(3, "a point", x.wall(7, 7, 7, 7, 0), OUTSIDE);
        due(3, "none of these is there", x.count(0), 0);
        due(3, "along the lower edge", x.wall(0, 0, 1000, 0, 0), 0);
        due(3, "along the far edge, downwards", x.wall(1000, 1000, 1000, 0, 0), 1);
        due(3, "the same once more", x.wall(0, 0, 1000, 0, 0), 2);
        for (int number = 3; number < 16; number++) due(3, "wall " + number, x.wall(1, number, 2, number, 0), number);
        due(3, "seventeenth", x.wall(0, 0, 1, 0, 0), FULL);
        due(3, "OUTSIDE is ahead of FULL", x.wall(0, 0, 0, 0, 0), OUTSIDE);
        due(3, "UNKNOWN is ahead of FULL", x.wall(0, 0, 1, 0, 8), UNKNOWN);
        due(3, "sixteen", x.count(0), 16);
    }

    private static void cover() {
        HallHeard x = new HallHeard();
        x.stuff(30, 5);
        due(4, "no wall", x.cover(0, 0), UNKNOWN);
        x.wall(0, 0, 100, 0, 0);
        due(4, "wall -1", x.cover(-1, 0), UNKNOWN);
        due(4, "wall 1", x.cover(1, 0), UNKNOWN);
        due(4, "stuff -1", x.cover(0, -1), UNKNOWN);
        due(4, "stuff 2", x.cover(0, 2), UNKNOWN);
        due(4, "still of stuff 0", x.told(0, 4), 0);
        due(4, "was 0", x.cover(0, 1), 0);
        due(4, "was 1", x.cover(0, 1), 1);
        due(4, "lost of stuff 1", x.count(5), 70);
        due(4, "was 1 again", x.cover(0, 0), 1);
    }

    private static void back() {
        HallHeard x = open(0, 50, 100, 50);
        due(5, "none", x.back(), NOT);
        x.wall(50, 0, 50, 100, 0);
        x.wall(0, 0, 10, 0, 0);
        due(5, "one is left", x.back(), 1);
        due(5, "wall 1 is there no more", x.told(1, 0), UNKNOWN);
        due(5, "wall 0 still is", x.paths(0, 0, 0), 0);
        due(5, "none is left", x.back(), 0);
        due(5, "the way is free", x.paths(0, 0, 0), 1);
        due(5, "none again", x.back(), NOT);
        due(5, "a number comes again", x.wall(5, 5, 9, 5, 0), 0);
        due(5, "with its own place", x.told(0, 2), 9);
    }

    private static void source() {
        HallHeard x = new HallHeard();
        x.seat(0, 0);
        due(6, "x -1", x.source(-1, 0, 1), OUTSIDE);
        due(6, "x 1001", x.source(1001, 0, 1), OUTSIDE);
        due(6, "y -1", x.source(0, -1, 1), OUTSIDE);
        due(6, "y 1001", x.source(0, 1001, 1), OUTSIDE);
        due(6, "power 0", x.source(0, 0, 0), OUTSIDE);
        due(6, "power 1001", x.source(0, 0, 1001), OUTSIDE);
        due(6, "least", x.source(0, 0, 1), 0);
        due(6, "greatest", x.source(1000, 1000, 1000), 1);
        due(6, "third", x.source(1, 0, 500), 2);
        due(6, "fourth", x.source(2, 0, 5), 3);
        due(6, "fifth", x.source(2, 0, 5), FULL);
        due(6, "OUTSIDE is ahead of FULL", x.source(2, 0, 0), OUTSIDE);
        due(6, "four", x.count(2), 4);
        due(6, "its power", x.heard(0, 0, 0), 1000000);
        due(6, "its power and place", x.heard(2, 0, 0), 250000000);
        due(6, "the refused one changed nothing", x.heard(3, 0, 0), 1000000);
    }

    private static void seat() {
        HallHeard x = new HallHeard();
        x.source(0, 0, 1);
        due(7, "x -1", x.seat(-1, 0), OUTSIDE);
        due(7, "x 1001", x.seat(1001, 0), OUTSIDE);
        due(7, "y -1", x.seat(0, -1), OUTSIDE);
        due(7, "y 1001", x.seat(0, 1001), OUTSIDE);
        due(7, "least", x.seat(0, 0), 0);
        due(7, "greatest", x.seat(1000, 1000), 1);
        for (int number = 2; number < 8; number++) due(7, "seat " + number, x.seat(number, 1), number);
        due(7, "ninth", x.seat(3, 3), FULL);
        due(7, "OUTSIDE is ahead of FULL", x.seat(3, 1001), OUTSIDE);
        due(7, "eight", x.count(3), 8);
        due(7, "its place", x.path(0, 7, 0, 4), 50);
    }

    private static void move() {
        HallHeard x = open(0, 0, 3, 4);
        due(8, "a source", x.move(0, 0, 3, 0), 1);
        due(8, "it is there", x.path(0, 0, 0, 4), 16);
        due(8, "a seat", x.move(0, 1, 1000, 1000), 1);
        due(8, "it is there", x.path(0, 0, 0, 4), 997 * 997 + 1000 * 1000);
        due(8, "source 1", x.move(1, 0, 0, 0), UNKNOWN);
        due(8, "source -1", x.move(-1, 0, 0, 0), UNKNOWN);
        due(8, "seat 1", x.move(1, 1, 0, 0), UNKNOWN);
        due(8, "UNKNOWN is ahead of OUTSIDE", x.move(1, 1, -1, 0), UNKNOWN);
        due(8, "x -1", x.move(0, 1, -1, 0), OUTSIDE);
        due(8, "y 1001", x.move(0, 0, 0, 1001), OUTSIDE);
        due(8, "what 2", x.move(0, 2, 0, 0), OUTSIDE);
        due(8, "what -1 of nobody", x.move(99, -1, 0, 0), OUTSIDE);
        due(8, "nothing moved", x.path(0, 0, 0, 4), 997 * 997 + 1000 * 1000);
        due(8, "the power stays", x.move(0, 1, 3, 0), 1);
        due(8, "the power stays", x.heard(0, 0, 0), 1000000000);
    }

    private static void rule() {
        HallHeard x = new HallHeard();
        due(9, "MOST 0", x.rule(0, 0), 2);
        due(9, "MOST 3", x.rule(0, 3), 0);
        due(9, "MOST 4", x.rule(0, 4), OUTSIDE);
        due(9, "MOST -1", x.rule(0, -1), OUTSIDE);
        due(9, "BORDER 1", x.rule(1, 1), 4);
        due(9, "BORDER 100", x.rule(1, 100), 1);
        due(9, "BORDER 101", x.rule(1, 101), OUTSIDE);
        due(9, "BORDER 0", x.rule(1, 0), OUTSIDE);
        due(9, "what 2", x.rule(2, 1), OUTSIDE);
        due(9, "what -1", x.rule(-1, 1), OUTSIDE);
        due(9, "MOST is as it was", x.rule(0, 1), 3);
        due(9, "BORDER is as it was", x.rule(1, 7), 100);
    }

    private static void told() {
        HallHeard x = new HallHeard();
        x.stuff(1, 1);
        x.wall(30, 20, 10, 20, 1);
        x.wall(5, 6, 5, 1000, 0);
        int[] first = {30, 20, 10, 20, 1, 20};
        int[] second = {5, 6, 5, 1000, 0, 994};
        for (int what = 0; what < 6; what++) {
            due(10, "wall 0, " + what, x.told(0, what), first[what]);
            due(10, "wall 1, " + what, x.told(1, what), second[what]);
        }
        due(10, "what 6", x.told(0, 6), OUTSIDE);
        due(10, "what -1", x.told(0, -1), OUTSIDE);
        due(10, "wall 2", x.told(2, 0), UNKNOWN);
        due(10, "wall -1", x.told(-1, 0), UNKNOWN);
        due(10, "UNKNOWN is ahead of OUTSIDE", x.told(2, 6), UNKNOWN);
    }

    private static void count() {
        HallHeard x = open(0, 0, 1, 1);
        x.seat(2, 2);
        x.stuff(0, 0);
        x.wall(0, 0, 9, 0, 0);
        x.wall(0, 5, 0, 14, 0);
        int[] counts = {2, 2, 1, 2, 18, 2, 111};
        for (int what = 0; what < 7; what++) due(11, "count " + what, x.count(what), counts[what]);
        due(11, "what 7", x.count(7), OUTSIDE);
        due(11, "what -1", x.count(-1), OUTSIDE);
        x.cover(0, 1);
        due(11, "LOST with share 0", x.count(5), 10);
        due(11, "DECAY with share 0", x.count(6), 555);
        x.back();
        due(11, "all is lost", x.count(6), 1000);
    }

    private static void paths() {
        HallHeard x = room();
        x.source(150, 100, 1000);
        x.seat(450, 300);
        due(12, "order 0", x.paths(0, 0, 0), 1);
        due(12, "order 1", x.paths(0, 0, 1), 4);
        due(12, "order 2: two corners are met in the corner itself", x.paths(0, 0, 2), 6);
        due(12, "order 3, beyond MOST", x.paths(0, 0, 3), 12);
        due(12, "all up to MOST", x.paths(0, 0, NONE), 11);
        x.move(0, 1, 451, 300);
        due(12, "no corner is met in the corner", x.paths(0, 0, 2), 8);
        int[] sums = {1, 5, 13, 25};
        for (int most = 0; most < 4; most++) {
            x.rule(0, most);
            due(12, "all up to " + most, x.paths(0, 0, NONE), sums[most]);
        }
        due(12, "order 4", x.paths(0, 0, 4), OUTSIDE);
        due(12, "order -2", x.paths(0, 0, -2), OUTSIDE);
        due(12, "source 1", x.paths(1, 0, 0), UNKNOWN);
        due(12, "seat -1", x.paths(0, -1, 0), UNKNOWN);
        due(12, "UNKNOWN is ahead of OUTSIDE", x.paths(0, 1, 4), UNKNOWN);
    }

    private static void pathsOfDegenerateHalls() {
        HallHeard x = open(50, 10, 50, 10);
        due(12, "a leg of no length", x.paths(0, 0, 0), 1);
        x.wall(0, 60, 100, 60, 0);
        due(12, "there and back again", x.paths(0, 0, 1), 1);
        x.wall(50, 10, 50, 0, 0);
        due(12, "a leg of no length on a wall's end", x.paths(0, 0, 0), 0);
        due(12, "source and seat on a wall", x.paths(0, 0, 1), 0);
        HallHeard on = open(0, 0, 100, 0);
        on.wall(50, 0, 50, 10, 0);
        due(12, "a wall's end touches the leg", on.paths(0, 0, 0), 0);
        on.back();
        on.wall(50, 1, 50, 10, 0);
        due(12, "a wall's end is close to the leg", on.paths(0, 0, 0), 1);
        on.wall(100, 0, 101, 0, 0);
        due(12, "a wall begins at the seat, on the leg's line", on.paths(0, 0, 0), 0);
        on.back();
        on.wall(101, 0, 200, 0, 0);
        due(12, "a wall on the leg's line behind the seat", on.paths(0, 0, 0), 1);
        on.move(0, 1, 1, 0);
        on.wall(0, 5, 0, 0, 0);
        due(12, "a wall ends at the source", on.paths(0, 0, 0), 0);
    }

    private static void path() {
        HallHeard x = room();
        x.source(150, 100, 1000);
        x.seat(451, 300);
        long[] direct = {0, NONE, NONE, NONE, 130601, 1000000000L / 130602, 7};
        // by walls 0 and 1: the last image is at (1050, -100)
        long[] corner = {2, 0, 1, NONE, 599 * 599 + 400 * 400, 640000000L / 518802, 14};
        for (int what = 0; what < 7; what++) {
            due(13, "path 0, " + what, x.path(0, 0, 0, what), direct[what]);
            due(13, "path 5, " + what, x.path(0, 0, 5, what), corner[what]);
        }
        for (int i = 1; i < 5; i++) due(13, "order 1 by rising walls", x.path(0, 0, i, 1), i - 1);
        int[][] rows = {{0, 1}, {0, 2}, {1, 3}, {2, 0}, {2, 1}, {3, 0}, {3, 1}, {3, 2}};
        for (int i = 5; i < 13; i++) {
            due(13, "order of path " + i, x.path(0, 0, i, 0), 2);
            due(13, "first wall of path " + i, x.path(0, 0, i, 1), rows[i - 5][0]);
            due(13, "second wall of path " + i, x.path(0, 0, i, 2), rows[i - 5][1]);
        }
        due(13, "behind the last one", x.path(0, 0, 13, 0), NONE);
        due(13, "i -1", x.path(0, 0, -1, 0), NONE);
        due(13, "i very great", x.path(0, 0, Integer.MAX_VALUE, 6), NONE);
        due(13, "what 7", x.path(0, 0, 0, 7), OUTSIDE);
        due(13, "what -1", x.path(0, 0, 0, -1), OUTSIDE);
        due(13, "OUTSIDE is ahead of NONE", x.path(0, 0, 99, 7), OUTSIDE);
        due(13, "source 4", x.path(4, 0, 0, 7), UNKNOWN);
        due(13, "seat 1", x.path(0, 1, 0, 0), UNKNOWN);
        x.rule(0, 0);
        due(13, "path 1 is beyond MOST", x.path(0, 0, 1, 0), NONE);
    }

    private static void pathOfThreeWalls() {
        HallHeard x = new HallHeard();
        x.stuff(50, 0);
        x.stuff(33, 0);
        x.wall(0, 0, 1000, 0, 1);
        x.wall(0, 100, 1000, 100, 2);
        x.source(100, 50, 7);
        x.seat(400, 50);
        x.rule(0, 3);
        due(13, "as many as orders and first walls", x.paths(0, 0, NONE), 7);
        long[] last = {3, 1, 0, 1, 300 * 300 + 300 * 300, 7000000L * 33 / 100 * 50 / 100 * 33 / 100 / 180001, 8};
        for (int what = 0; what < 7; what++) due(13, "1, 0, 1: " + what, x.path(0, 0, 6, what), last[what]);
        due(13, "0, 1, 0 is ahead of it", x.path(0, 0, 5, 1), 0);
        x.move(0, 1, 100, 50);
        due(13, "straight up and down", x.path(0, 0, 5, 4), 90000);
        due(13, "a root of exactly 300", x.path(0, 0, 5, 6), 6);
        x.move(0, 0, 101, 50);
        due(13, "a root just above 300", x.path(0, 0, 5, 6), 6);
        x.move(0, 0, 100, 1);
        x.move(0, 1, 100, 50);
        due(13, "a root of 49", x.path(0, 0, 0, 6), 0);
        x.move(0, 1, 100, 51);
        due(13, "a root of 50", x.path(0, 0, 0, 6), 1);
    }

    private static void sees() {
        HallHeard x = open(0, 0, 80, 0);
        due(14, "order 0", x.sees(0, 0, NONE, NONE, NONE), 1);
        x.wall(60, 50, 40, 50, 0);
        due(14, "a bounce at the wall's end", x.sees(0, 0, 0, NONE, NONE), 1);
        x.move(0, 1, 79, 0);
        due(14, "half a unit beyond its end", x.sees(0, 0, 0, NONE, NONE), NONE);
        x.move(0, 1, 120, 0);
        due(14, "a bounce at its other end", x.sees(0, 0, 0, NONE, NONE), 1);
        x.move(0, 1, 121, 0);
        due(14, "beyond the other end", x.sees(0, 0, 0, NONE, NONE), NONE);
        x.move(0, 1, 100, 0);
        x.wall(50, 50, 50, 90, 0);
        due(14, "another wall touches the bounce", x.sees(0, 0, 0, NONE, NONE), 0);
        due(14, "the wall twice", x.sees(0, 0, 0, 0, NONE), NONE);
        due(14, "the last wall twice", x.sees(0, 0, 1, 0, 0), NONE);
        due(14, "wall 2", x.sees(0, 0, 2, NONE, NONE), UNKNOWN);
        due(14, "wall -2", x.sees(0, 0, 0, 1, -2), UNKNOWN);
        due(14, "NONE ahead of the second", x.sees(0, 0, NONE, 0, NONE), OUTSIDE);
        due(14, "NONE ahead of the third", x.sees(0, 0, NONE, NONE, 0), OUTSIDE);
        due(14, "NONE between two", x.sees(0, 0, 0, NONE, 0), OUTSIDE);
        due(14, "UNKNOWN is ahead of OUTSIDE", x.sees(0, 0, NONE, 2, NONE), UNKNOWN);
        due(14, "OUTSIDE is ahead of a wall that is twice", x.sees(0, 0, NONE, 0, 0), OUTSIDE);
        due(14, "source 1", x.sees(1, 0, NONE, NONE, NONE), UNKNOWN);
        due(14, "seat 1", x.sees(0, 1, NONE, NONE, NONE), UNKNOWN);
        x.rule(0, 0);
        due(14, "MOST does not matter", x.sees(0, 0, 0, NONE, NONE), 0);
    }

    private static void seesExactly() {
        // the bounce is at x = 33 and a third
        HallHeard x = open(0, 0, 50, 10);
        x.wall(0, 20, 33, 20, 0);
        due(14, "a third beyond the end", x.sees(0, 0, 0, NONE, NONE), NONE);
        x.back();
        x.wall(0, 20, 34, 20, 0);
        due(14, "two thirds ahead of the end", x.sees(0, 0, 0, NONE, NONE), 1);
        x.wall(25, 15, 25, 20, 0);
        due(14, "a screen's end on the leg", x.sees(0, 0, 0, NONE, NONE), 0);
        x.back();
        x.wall(25, 16, 25, 20, 0);
        due(14, "a screen above the leg", x.sees(0, 0, 0, NONE, NONE), 1);
        x.wall(0, 20, 34, 20, 0);
        due(14, "two walls on one another hide one another", x.sees(0, 0, 0, NONE, NONE), 0);
        due(14, "and are no two bounces", x.sees(0, 0, 0, 2, NONE), NONE);
    }

    private static void seesInRoom() {
        HallHeard x = room();
        x.source(150, 100, 1000);
        x.seat(450, 300);
        due(14, "a corner met in the corner", x.sees(0, 0, 0, 3, NONE), NONE);
        due(14, "the same, the other way", x.sees(0, 0, 3, 0, NONE), NONE);
        due(14, "a row of three", x.sees(0, 0, 0, 1, 2), 1);
        due(14, "there, back and there", x.sees(0, 0, 0, 2, 0), 1);
        due(14, "walls in the wrong order", x.sees(0, 0, 1, 0, NONE), NONE);
        x.wall(300, 150, 300, 250, 0);
        due(14, "a screen between", x.sees(0, 0, NONE, NONE, NONE), 0);
        due(14, "past the screen", x.sees(0, 0, 0, NONE, NONE), 1);
        due(14, "the screen is no mirror from behind", x.sees(0, 0, 4, NONE, NONE), NONE);
        x.move(0, 1, 300, 380);
        due(14, "a leg to a seat on the screen's line", x.sees(0, 0, 4, NONE, NONE), NONE);
        HallHeard on = open(100, 50, 300, 100);
        on.wall(100, 0, 100, 100, 0);
        due(14, "the source on the wall", on.sees(0, 0, 0, NONE, NONE), NONE);
        on.move(0, 0, 300, 50);
        on.move(0, 1, 100, 70);
        due(14, "the seat on the wall", on.sees(0, 0, 0, NONE, NONE), NONE);
        on.move(0, 0, 300, 50);
        on.move(0, 1, 300, 50);
        due(14, "straight on and back", on.sees(0, 0, 0, NONE, NONE), 1);
        on.wall(200, 50, 250, 50, 0);
        due(14, "a wall along the leg", on.sees(0, 0, 0, NONE, NONE), 0);
        on.back();
        on.wall(301, 50, 350, 50, 0);
        due(14, "a wall on its line, behind", on.sees(0, 0, 0, NONE, NONE), 1);
        on.back();
        on.wall(10, 50, 99, 50, 0);
        due(14, "a wall on its line, behind the bounce", on.sees(0, 0, 0, NONE, NONE), 1);
        on.back();
        on.wall(10, 50, 100, 50, 0);
        due(14, "a wall on its line up to the bounce", on.sees(0, 0, 0, NONE, NONE), 0);
    }

    /** Seat, source and wall at one height, the seat or the source farther off: a screen there is on one leg alone. */
    private static void seesAlongOneLine() {
        int[][] places = {{150, 300, 100, 200, 250}, {300, 150, 100, 200, 250}, {850, 700, 900, 750, 800},
            {700, 850, 900, 750, 800}};
        for (int[] p : places) {
            HallHeard x = open(p[0], 50, p[1], 50);
            x.wall(p[2], 0, p[2], 100, 0);
            due(14, "free", x.sees(0, 0, 0, NONE, NONE), 1);
            x.wall(p[3], 50, p[4], 50, 0);
            due(14, "a screen on one leg", x.sees(0, 0, 0, NONE, NONE), 0);
            x.back();
            x.wall(p[3], 49, p[4], 49, 0);
            due(14, "a screen beside it", x.sees(0, 0, 0, NONE, NONE), 1);
            x.back();
            x.wall(p[2] < 500 ? 310 : 600, 50, p[2] < 500 ? 400 : 690, 50, 0);
            due(14, "a screen behind both", x.sees(0, 0, 0, NONE, NONE), 1);
            x.wall(p[2] < 500 ? 300 : 600, 50, p[2] < 500 ? 400 : 700, 50, 0);
            due(14, "a screen up to the farther one", x.sees(0, 0, 0, NONE, NONE), 0);
        }
    }

    /** One wall at y = 0: the direct path of 100 (TICK 2), the other one of 260 (TICK 5). */
    private static HallHeard twoPaths() {
        HallHeard x = open(300, 120, 400, 120);
        x.wall(0, 0, 1000, 0, 0);
        return x;
    }

    private static void heard() {
        HallHeard x = twoPaths();
        long direct = 1000000000L / 10001;
        long other = 800000000L / 67601;
        due(15, "EARLY has both", x.heard(0, 0, 0), direct + other);
        due(15, "LATER has none", x.heard(0, 0, 1), 0);
        x.rule(1, 3);
        due(15, "EARLY has the direct one", x.heard(0, 0, 0), direct);
        due(15, "LATER has the other one", x.heard(0, 0, 1), other);
        due(15, "CLARITY", x.heard(0, 0, 2), 1000 * direct / (direct + other));
        due(15, "CENTRE", x.heard(0, 0, 3), 3 * other / (direct + other));
        due(15, "the least TICK", x.heard(0, 0, 4), 2);
        x.wall(350, 110, 350, 130, 0);
        due(15, "without the direct one the other one is the first", x.heard(0, 0, 0), other);
        due(15, "its CENTRE", x.heard(0, 0, 3), 0);
        due(15, "its TICK", x.heard(0, 0, 4), 5);
        x.rule(0, 0);
        due(15, "no PATH: EARLY", x.heard(0, 0, 0), 0);
        due(15, "no PATH: LATER", x.heard(0, 0, 1), 0);
        for (int what = 2; what < 5; what++) due(15, "no PATH: " + what, x.heard(0, 0, what), NONE);
        due(15, "what 5", x.heard(0, 0, 5), OUTSIDE);
        due(15, "what -1", x.heard(0, 0, -1), OUTSIDE);
        due(15, "source -1", x.heard(-1, 0, 0), UNKNOWN);
        due(15, "seat 1", x.heard(0, 1, 5), UNKNOWN);
    }

    private static void heardOfSilentWalls() {
        HallHeard x = twoPaths();
        x.stuff(0, 0);
        x.cover(0, 1);
        x.wall(350, 110, 350, 130, 0);
        due(15, "a PATH without ENERGY is a PATH", x.paths(0, 0, NONE), 1);
        due(15, "and has a TICK", x.heard(0, 0, 4), 5);
        due(15, "but no CLARITY", x.heard(0, 0, 2), NONE);
        due(15, "and no CENTRE", x.heard(0, 0, 3), NONE);
        x.wall(0, 600, 1000, 600, 0);
        due(15, "a late PATH after one without ENERGY", x.heard(0, 0, 2), 0);
        due(15, "is as late as it is", x.heard(0, 0, 3), 14);
        HallHeard faint = new HallHeard();
        faint.source(0, 0, 1);
        faint.seat(800, 0);
        due(15, "the least ENERGY", faint.heard(0, 0, 0), 1);
        due(15, "CENTRE of the least ENERGY", faint.heard(0, 0, 3), 0);
        faint.seat(1000, 0);
        due(15, "no ENERGY at all", faint.heard(0, 1, 2), NONE);
        due(15, "its TICK", faint.heard(0, 1, 4), 20);
    }

    private static void at() {
        HallHeard x = twoPaths();
        due(16, "the direct one", x.at(0, 0, 2), 1000000000L / 10001);
        due(16, "the other one", x.at(0, 0, 5), 800000000L / 67601);
        due(16, "none", x.at(0, 0, 0), 0);
        due(16, "none between", x.at(0, 0, 4), 0);
        due(16, "none at 300", x.at(0, 0, 300), 0);
        x.wall(0, 240, 1000, 240, 0);
        due(16, "two with one TICK", x.at(0, 0, 5), 2 * (800000000L / 67601));
        x.rule(0, 0);
        due(16, "beyond MOST", x.at(0, 0, 5), 0);
        due(16, "tick -1", x.at(0, 0, -1), OUTSIDE);
        due(16, "tick 301", x.at(0, 0, 301), OUTSIDE);
        due(16, "source 1", x.at(1, 0, 301), UNKNOWN);
        due(16, "seat -1", x.at(0, -1, 0), UNKNOWN);
    }

    private static void left() {
        HallHeard x = new HallHeard();
        x.wall(0, 0, 100, 0, 0);
        due(17, "none lost behind no TICK", x.left(999, 0), 999);
        due(17, "cut", x.left(999, 1), 799);
        due(17, "cut each time", x.left(999, 2), 639);
        due(17, "nothing of nothing", x.left(0, 100), 0);
        due(17, "the greatest sum", x.left(1000000000000L, 1), 800000000000L);
        due(17, "e -1", x.left(-1, 1), OUTSIDE);
        due(17, "e too great", x.left(1000000000001L, 1), OUTSIDE);
        due(17, "e far too great", x.left(Long.MAX_VALUE, 1), OUTSIDE);
        due(17, "n -1", x.left(1, -1), OUTSIDE);
        due(17, "n 101", x.left(1, 101), OUTSIDE);
        x.stuff(0, 0);
        x.cover(0, 1);
        due(17, "all is lost", x.left(1000, 1), 0);
        x.stuff(100, 0);
        x.cover(0, 2);
        due(17, "nothing is lost", x.left(1000000000000L, 100), 1000000000000L);
    }

    private static void worst() {
        HallHeard x = new HallHeard();
        x.source(300, 120, 1000);
        due(18, "no seat", x.worst(0), NONE);
        x.rule(1, 3);
        x.wall(0, 0, 1000, 0, 0);
        x.seat(300, 119);
        due(18, "one seat", x.worst(0), 0);
        x.seat(400, 120);
        due(18, "the farther one", x.worst(0), 1);
        x.seat(200, 120);
        due(18, "of like ones the first", x.worst(0), 1);
        x.stuff(0, 0);
        x.stuff(100, 0);
        x.cover(0, 1);
        x.wall(0, 900, 1000, 900, 2);
        x.wall(440, 110, 440, 130, 0);
        x.seat(480, 120);
        due(18, "CLARITY 0", x.heard(0, 3, 2), 0);
        due(18, "is the least", x.worst(0), 3);
        x.seat(500, 0);
        due(18, "no CLARITY", x.heard(0, 4, 2), NONE);
        due(18, "is less than 0", x.worst(0), 4);
        due(18, "source 1", x.worst(1), UNKNOWN);
        due(18, "source -1", x.worst(-1), UNKNOWN);
    }

    private static void best() {
        HallHeard x = twoPaths();
        x.rule(1, 1);
        x.stuff(40, 7);
        x.stuff(40, 5);
        x.stuff(0, 90);
        x.stuff(40, 5);
        long now = x.heard(0, 0, 2);
        due(19, "an empty SET: CLARITY", x.best(0, 0, 0, 0, 0), now);
        due(19, "an empty SET: COST", x.best(0, 0, 0, 0, 1), 0);
        due(19, "an empty SET: STUFFS", x.best(0, 0, 0, 0, 2), 0);
        due(19, "no money", x.best(0, 0, 1, 0, 0), now);
        due(19, "money for all: CLARITY", x.best(0, 0, 1, 900, 0), 1000);
        due(19, "money for all: COST", x.best(0, 0, 1, 900, 1), 900);
        due(19, "money for all: STUFF", x.best(0, 0, 1, 900, 2), 3);
        due(19, "a little less: the cheaper and first of like ones", x.best(0, 0, 1, 899, 2), 2);
        due(19, "a little less: its COST", x.best(0, 0, 1, 899, 1), 50);
        due(19, "too little", x.best(0, 0, 1, 49, 2), 0);
        due(19, "nothing is changed", x.told(0, 4), 0);
        due(19, "nothing is changed", x.heard(0, 0, 2), now);
        due(19, "wall 1", x.best(0, 0, 2, 0, 0), OUTSIDE);
        due(19, "SET -1", x.best(0, 0, -1, 0, 0), OUTSIDE);
        due(19, "money -1", x.best(0, 0, 1, -1, 0), OUTSIDE);
        due(19, "money 1000001", x.best(0, 0, 1, 1000001, 0), OUTSIDE);
        due(19, "money 1000000", x.best(0, 0, 1, 1000000, 0), 1000);
        due(19, "what 3", x.best(0, 0, 1, 0, 3), OUTSIDE);
        due(19, "what -1", x.best(0, 0, 1, 0, -1), OUTSIDE);
        due(19, "source 1", x.best(1, 0, -1, 0, 0), UNKNOWN);
        due(19, "seat 1", x.best(0, 1, 1, -1, 0), UNKNOWN);
    }

    private static void bestOfSeveral() {
        HallHeard x = twoPaths();
        x.rule(1, 1);
        x.wall(0, 999, 0, 998, 0);
        x.wall(0, 240, 1000, 240, 0);
        x.wall(5, 990, 5, 999, 0);
        x.wall(6, 990, 6, 999, 0);
        x.stuff(0, 10);
        due(19, "five walls", x.best(0, 0, 31, 0, 0), OUTSIDE);
        due(19, "one of the two walls: the latter has the lesser figure", x.best(0, 0, 0b00101, 100, 2), 1);
        due(19, "both", x.best(0, 0, 0b00101, 200, 2), 9);
        due(19, "both: COST", x.best(0, 0, 0b00101, 200, 1), 200);
        due(19, "a wall of no use stays cheap", x.best(0, 0, 0b00110, 1000, 2), 1);
        due(19, "four walls, the first the highest", x.best(0, 0, 0b01111, 1000, 2), 8 + 512);
        due(19, "four walls: COST", x.best(0, 0, 0b01111, 1000, 1), 200);
        x.stuff(0, 1);
        due(19, "length times cost is cut for each wall", x.best(0, 0, 0b01001, 1000, 1), 10);
        x.move(0, 1, 0, 0);
        due(19, "no CLARITY", x.best(0, 0, 0b01111, 1000, 0), NONE);
        due(19, "no CLARITY: COST", x.best(0, 0, 0b01111, 1000, 1), 0);
        due(19, "no CLARITY: STUFFS", x.best(0, 0, 0b01111, 1000, 2), 0);
    }

    private static void bestByCosts() {
        HallHeard x = open(300, 120, 400, 120);
        x.rule(1, 1);
        x.wall(0, 0, 199, 0, 0);
        x.wall(0, 500, 99, 500, 0);
        x.stuff(0, 100);
        // no wall is long enough for a bounce: CLARITY is 1000 whatever they are of
        due(19, "of like ones the cheapest", x.best(0, 0, 3, 1000, 2), 0);
        HallHeard y = twoPaths();
        y.rule(1, 1);
        y.back();
        y.wall(251, 0, 450, 0, 0);
        y.stuff(0, 1);
        due(19, "199 units at 1 for 100, cut", y.best(0, 0, 1, 1, 1), 1);
        due(19, "and it is done", y.best(0, 0, 1, 1, 2), 1);
        due(19, "without it, it is not", y.best(0, 0, 1, 0, 2), 0);
    }

    private static void refusalsLeaveAllAsItIs() {
        HallHeard x = room();
        x.source(150, 100, 1000);
        x.seat(451, 300);
        long clarity = x.heard(0, 0, 2);
        long[] extremes = {Integer.MIN_VALUE, Integer.MAX_VALUE};
        for (long extreme : extremes) {
            int e = (int) extreme;
            due(2, "stuff", x.stuff(e, e), OUTSIDE);
            due(3, "wall", x.wall(e, e, e, e, 0), OUTSIDE);
            due(4, "cover", x.cover(e, e), UNKNOWN);
            due(6, "source", x.source(e, e, e), OUTSIDE);
            due(7, "seat", x.seat(e, e), OUTSIDE);
            due(8, "move", x.move(e, 0, e, e), UNKNOWN);
            due(9, "rule", x.rule(e, e), OUTSIDE);
            due(10, "told", x.told(e, e), UNKNOWN);
            due(11, "count", x.count(e), OUTSIDE);
            due(12, "paths", x.paths(0, 0, e), OUTSIDE);
            due(13, "path", x.path(0, 0, e, 0), NONE);
            due(14, "sees", x.sees(0, 0, e, e, e), UNKNOWN);
            due(15, "heard", x.heard(0, 0, e), OUTSIDE);
            due(16, "at", x.at(0, 0, e), OUTSIDE);
            due(17, "left", x.left(5, e), OUTSIDE);
            due(18, "worst", x.worst(e), UNKNOWN);
            due(19, "best", x.best(0, 0, e, 0, 0), OUTSIDE);
        }
        due(15, "CLARITY is as it was", x.heard(0, 0, 2), clarity);
        due(12, "and so are the paths", x.paths(0, 0, NONE), 13);
    }

    public static void main(String[] args) {
        constants();
        newObject();
        stuff();
        wall();
        cover();
        back();
        source();
        seat();
        move();
        rule();
        told();
        count();
        paths();
        pathsOfDegenerateHalls();
        path();
        pathOfThreeWalls();
        sees();
        seesExactly();
        seesInRoom();
        seesAlongOneLine();
        heard();
        heardOfSilentWalls();
        at();
        left();
        worst();
        best();
        bestOfSeveral();
        bestByCosts();
        refusalsLeaveAllAsItIs();
        System.out.println(wrong == 0 ? "all promises are kept" : wrong + " answers are not as due");
        if (wrong != 0) System.exit(1);
    }
}
