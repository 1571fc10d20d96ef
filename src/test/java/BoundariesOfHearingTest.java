/** The boundaries of promises 15 to 19, sentence by sentence: early and late, what is left, the walls chosen. */
public final class BoundariesOfHearingTest {
    private static final int UNKNOWN = Boundaries.UNKNOWN, OUTSIDE = Boundaries.OUTSIDE, NONE = Boundaries.NONE;
    private static final long GREATEST_SUM = 1000000000000L;
    private static final Boundaries.Hall EMPTY = Boundaries.EMPTY;
    private static final Boundaries.Hall FURNISHED = Boundaries.FURNISHED;
    private static final Boundaries.Hall FILLED = Boundaries.FILLED;
    private static final Boundaries.Hall BARE = BoundariesOfHearingTest::bare;

    private static void due(int promise, String sentence, long got, long want) {
        Boundaries.due(promise, sentence, got, want);
    }

    /** A source and a seat, and no walls. */
    private static HallHeard bare() {
        HallHeard x = new HallHeard();
        x.source(0, 0, 1);
        x.seat(0, 0);
        return x;
    }

    /** The direct path of length 100 (TICK 2), and one by wall 0 of length 260 (TICK 5). */
    private static HallHeard twoPaths() {
        HallHeard x = new HallHeard();
        x.source(300, 120, 1000);
        x.seat(400, 120);
        x.wall(0, 0, 1000, 0, 0);
        return x;
    }

    private static final long DIRECT = 1000000000L / 10001;
    private static final long MIRRORED = 800000000L / 67601;

    private static void hears(HallHeard x, String sentence, long early, long later, long clarity, long centre,
            long least) {
        long[] wants = {early, later, clarity, centre, least};
        for (int what = 0; what < 5; what++) due(15, sentence + ", " + what, x.heard(0, 0, what), wants[what]);
    }

    // ---- promise 15

    /** "what = 0 EARLY .. 4 the least TICK. UNKNOWN, OUTSIDE." */
    private static void asksWhatIsHeard() {
        Boundaries.range(15, "SOURCE", FURNISHED, 0, 1, UNKNOWN, (x, v) -> x.heard(v, 0, 0));
        Boundaries.range(15, "SEAT", FURNISHED, 0, 2, UNKNOWN, (x, v) -> x.heard(0, v, 0));
        Boundaries.range(15, "SOURCE of a full hall", FILLED, 0, 3, UNKNOWN, (x, v) -> x.heard(v, 7, 2));
        Boundaries.range(15, "SEAT of a full hall", FILLED, 0, 7, UNKNOWN, (x, v) -> x.heard(3, v, 2));
        Boundaries.range(15, "what", FURNISHED, 0, 4, OUTSIDE, (x, v) -> x.heard(0, 0, v));
        Boundaries.refused(15, "no source, what 5", FURNISHED, UNKNOWN, x -> x.heard(2, 0, 5));
        Boundaries.refused(15, "no seat, what -1", FURNISHED, UNKNOWN, x -> x.heard(0, -1, -1));
    }

    /** "whose TICK is less than that of the first PATH and BORDER": 5 is not less than 2 + 3, but than 2 + 4. */
    private static void earlyAndLater() {
        HallHeard x = twoPaths();
        long sum = DIRECT + MIRRORED;
        long clarity = 1000 * DIRECT / sum;
        hears(x, "BORDER 4 at first", sum, 0, 1000, 3 * MIRRORED / sum, 2);
        for (int border : new int[] {1, 2, 3}) {
            x.rule(1, border);
            hears(x, "BORDER " + border, DIRECT, MIRRORED, clarity, 3 * MIRRORED / sum, 2);
        }
        for (int border : new int[] {4, 5, 100}) {
            x.rule(1, border);
            hears(x, "BORDER " + border, sum, 0, 1000, 3 * MIRRORED / sum, 2);
        }
    }

    /** BORDER 1 has all paths of the least TICK, and BORDER 100 those of the greatest TICK there may be. */
    private static void bordersAtTheirEnds() {
        HallHeard near = new HallHeard();
        near.source(500, 510, 1000);
        near.seat(510, 510);
        near.wall(0, 500, 1000, 500, 0);
        near.rule(1, 1);
        hears(near, "two of TICK 0", 1000000000L / 101 + 800000000L / 501, 0, 1000, 0, 0);
        HallHeard far = new HallHeard();
        far.source(1, 0, 1000);
        far.seat(1, 0);
        far.wall(0, 0, 0, 1000, 0);
        far.wall(1000, 0, 1000, 1000, 0);
        far.rule(0, 3);
        due(15, "the last TICK is far", far.path(0, 0, far.paths(0, 0, NONE) - 1, 6), 79);
        far.rule(1, 100);
        due(15, "BORDER 100: none is LATER", far.heard(0, 0, 1), 0);
        far.rule(1, 80);
        due(15, "BORDER 80: none is LATER", far.heard(0, 0, 1), 0);
        far.rule(1, 79);
        due(15, "BORDER 79: one is", far.heard(0, 0, 1), 512000000L / (3998 * 3998 + 1));
    }

    /** "the first PATH (the least TICK of all)": here a path of order 2 is ahead in time of one of order 1. */
    private static void firstInTime() {
        HallHeard x = new HallHeard();
        x.source(100, 150, 1000);
        x.seat(500, 170);
        x.wall(200, 100, 220, 100, 0);
        x.wall(420, 200, 450, 200, 0);
        x.wall(300, 155, 300, 165, 0);
        x.wall(0, 900, 1000, 900, 0);
        due(15, "path 0 is of order 1", x.path(0, 0, 0, 0), 1);
        due(15, "and late", x.path(0, 0, 0, 6), 30);
        due(15, "path 1 is of order 2", x.path(0, 0, 1, 0), 2);
        due(15, "and the first in time", x.path(0, 0, 1, 6), 8);
        due(15, "two of them", x.paths(0, 0, NONE), 2);
        long first = 640000000L / 192401;
        long other = 800000000L / 2350401;
        hears(x, "by time", first, other, 1000 * first / (first + other), 22 * other / (first + other), 8);
    }

    /** "NONE of both, if that sum is 0"; "the least TICK (NONE: no PATH)". */
    private static void nothingIsHeard() {
        HallHeard none = new HallHeard();
        none.source(100, 100, 1000);
        none.seat(500, 100);
        none.wall(300, 0, 300, 1000, 0);
        hears(none, "no path", 0, 0, NONE, NONE, NONE);
        HallHeard silent = twoPaths();
        silent.stuff(0, 0);
        silent.cover(0, 1);
        silent.wall(350, 110, 350, 130, 0);
        hears(silent, "a path without ENERGY", 0, 0, NONE, NONE, 5);
        HallHeard faint = new HallHeard();
        faint.source(0, 0, 1);
        faint.seat(1000, 0);
        hears(faint, "too far to be heard", 0, 0, NONE, NONE, 20);
        faint.move(0, 1, 999, 44);
        hears(faint, "the least that is heard", 1, 0, 1000, 0, 19);
        HallHeard here = new HallHeard();
        here.source(0, 0, 1000);
        here.seat(0, 0);
        hears(here, "the most at one point", 1000000000, 0, 1000, 0, 0);
    }

    /** CLARITY from 0 to 1000: all LATER, all EARLY, and cut between. */
    private static void clarityAtItsEnds() {
        HallHeard x = twoPaths();
        x.rule(0, 1);
        x.stuff(0, 0);
        x.cover(0, 1);
        x.wall(350, 110, 350, 130, 0);
        x.wall(0, 591, 1000, 591, 0);
        long late = 800000000L / 897365;
        hears(x, "the first without ENERGY, the other one late", 0, late, 0, 18 - 5, 5);
        x.rule(1, 13);
        due(15, "BORDER 13: CLARITY 0", x.heard(0, 0, 2), 0);
        x.rule(1, 14);
        due(15, "BORDER 14: CLARITY 1000", x.heard(0, 0, 2), 1000);
    }

    /** "sums and products in longs": more than an int may be. */
    private static void sumsInLongs() {
        HallHeard x = new HallHeard();
        x.stuff(100, 0);
        x.wall(499, 499, 501, 499, 1);
        x.wall(501, 499, 501, 501, 1);
        x.wall(501, 501, 499, 501, 1);
        x.wall(499, 501, 499, 499, 1);
        x.source(500, 500, 1000);
        x.seat(500, 500);
        x.rule(0, 3);
        long e = 1000000000L;
        long sum = e + 4 * (e / 5) + 4 * (e / 17) + 4 * (e / 37) + 8 * (e / 21);
        hears(x, "a room of 2 by 2", sum, 0, 1000, 0, 0);
        due(15, "it is beyond an int", sum > Integer.MAX_VALUE ? 1 : 0, 1);
        due(16, "at TICK 0", x.at(0, 0, 0), sum);
    }

    /** "by PATHS of orders up to MOST (0 .. 3)". */
    private static void heardByMost() {
        HallHeard x = new HallHeard();
        x.wall(0, 100, 1000, 100, 0);
        x.wall(0, 200, 1000, 200, 0);
        x.source(100, 150, 1000);
        x.seat(500, 150);
        x.rule(1, 100);
        long[] ofOrder = {1000000000L / 160001, 2 * (800000000L / 170001), 2 * (640000000L / 200001),
            2 * (512000000L / 250001)};
        long sum = 0;
        for (int most = 0; most <= 3; most++) {
            x.rule(0, most);
            sum += ofOrder[most];
            due(15, "MOST " + most, x.heard(0, 0, 0), sum);
            due(16, "MOST " + most + ", TICK 10", x.at(0, 0, 10), most < 3 ? 0 : ofOrder[3]);
        }
    }

    // ---- promise 16

    /** "ENERGY of all PATHS with a TICK (0 .. 300). UNKNOWN, OUTSIDE." */
    private static void asksForTick() {
        Boundaries.range(16, "SOURCE", FURNISHED, 0, 1, UNKNOWN, (x, v) -> x.at(v, 0, 0));
        Boundaries.range(16, "SEAT", FURNISHED, 0, 2, UNKNOWN, (x, v) -> x.at(0, v, 0));
        Boundaries.range(16, "SOURCE of a full hall", FILLED, 0, 3, UNKNOWN, (x, v) -> x.at(v, 7, 5));
        Boundaries.range(16, "SEAT of a full hall", FILLED, 0, 7, UNKNOWN, (x, v) -> x.at(3, v, 5));
        Boundaries.range(16, "TICK", FURNISHED, 0, 300, OUTSIDE, (x, v) -> x.at(0, 0, v));
        Boundaries.refused(16, "no source, TICK 301", FURNISHED, UNKNOWN, x -> x.at(2, 0, 301));
        Boundaries.refused(16, "no seat, TICK -1", FURNISHED, UNKNOWN, x -> x.at(0, 3, -1));
        HallHeard x = twoPaths();
        long[] wants = {0, 0, DIRECT, 0, 0, MIRRORED, 0};
        for (int tick = 0; tick < wants.length; tick++) due(16, "TICK " + tick, x.at(0, 0, tick), wants[tick]);
        due(16, "TICK 300", x.at(0, 0, 300), 0);
        x.wall(350, 0, 350, 1000, 0);
        due(16, "no path", x.at(0, 0, 2), 0);
    }

    // ---- promise 17

    /** "LEFT behind n TICKS (0 .. 100) of a sum e (0 .. 10^12)". */
    private static void asksWhatIsLeft() {
        Boundaries.range(17, "n", FURNISHED, 0, 100, OUTSIDE, (x, v) -> x.left(1000, v));
        Boundaries.range(17, "n of 0", FURNISHED, 0, 100, OUTSIDE, (x, v) -> x.left(0, v));
        for (long e : new long[] {-1, GREATEST_SUM + 1, Long.MIN_VALUE, Long.MAX_VALUE, -(1L << 32)}) {
            Boundaries.refused(17, "e " + e, FURNISHED, OUTSIDE, x -> x.left(e, 0));
        }
        Boundaries.refused(17, "both outside", FURNISHED, OUTSIDE, x -> x.left(-1, -1));
        Boundaries.refused(17, "both outside, above", EMPTY, OUTSIDE, x -> x.left(GREATEST_SUM + 1, 101));
        for (long e : new long[] {0, 1, 1L << 32, GREATEST_SUM}) {
            due(17, "no walls, n 0", new HallHeard().left(e, 0), e);
            due(17, "no walls, n 100", new HallHeard().left(e, 100), e);
            due(17, "n 0", FURNISHED.make().left(e, 0), e);
        }
    }

    /** "n times it becomes it times (1000 less DECAY) / 1000, cut": DECAY 0, 1, 999, 1000 and between. */
    private static void leftByDecay() {
        HallHeard x = new HallHeard();
        x.stuff(0, 0);
        x.stuff(100, 0);
        x.stuff(99, 0);
        x.wall(0, 0, 1000, 0, 0);
        due(17, "1 is cut to 0", x.left(1, 1), 0);
        due(17, "cut each time", x.left(99, 2), 63);
        due(17, "200 of 1000 each time", x.left(GREATEST_SUM, 2), GREATEST_SUM / 100 * 64);
        due(17, "100 times", x.left(GREATEST_SUM, 100), 201);
        x.cover(0, 1);
        due(17, "DECAY 1000, n 0", x.left(GREATEST_SUM, 0), GREATEST_SUM);
        due(17, "DECAY 1000, n 1", x.left(GREATEST_SUM, 1), 0);
        due(17, "DECAY 1000, n 100", x.left(GREATEST_SUM, 100), 0);
        x.cover(0, 2);
        due(17, "DECAY 0, n 100", x.left(GREATEST_SUM, 100), GREATEST_SUM);
        x.wall(0, 1, 100, 1, 3);
        due(17, "LOST 1 of 1100: DECAY is cut to 0", x.left(1000, 1), 1000);
        x.cover(0, 3);
        due(17, "LOST 11 of 1100: DECAY 10", x.left(1000, 2), 980);
    }

    // ---- promise 18

    /** "of like ones the least number; NONE: there is no SEAT. UNKNOWN." */
    private static void worstSeats() {
        Boundaries.range(18, "SOURCE", FURNISHED, 0, 1, UNKNOWN, (x, v) -> x.worst(v));
        Boundaries.range(18, "SOURCE of a full hall", FILLED, 0, 3, UNKNOWN, (x, v) -> x.worst(v));
        HallHeard x = new HallHeard();
        x.seat(5, 5);
        due(18, "a seat, but no source", x.worst(0), UNKNOWN);
        HallHeard y = new HallHeard();
        y.source(5, 5, 1);
        due(18, "a source, but no seat", y.worst(0), NONE);
        due(18, "neither seat nor this source", y.worst(1), UNKNOWN);
        y.seat(5, 5);
        due(18, "one seat", y.worst(0), 0);
        for (int k = 1; k < 8; k++) y.seat(5, 5 + k);
        due(18, "eight like ones", y.worst(0), 0);
        y.move(7, 1, 1000, 1000);
        due(18, "NONE counts as -1: the last seat", y.worst(0), 7);
        y.move(3, 1, 1000, 1000);
        due(18, "of two the least number", y.worst(0), 3);
        y.move(0, 1, 1000, 1000);
        due(18, "of three the least number", y.worst(0), 0);
    }

    /** NONE is less than 0, and 0 than any other, whichever comes first. */
    private static void worstOfLeastClarity() {
        for (int first = 0; first < 3; first++) {
            HallHeard x = new HallHeard();
            x.stuff(0, 0);
            x.rule(0, 1);
            x.wall(0, 0, 1000, 0, 1);
            x.wall(0, 591, 1000, 591, 0);
            x.wall(350, 110, 350, 130, 0);
            x.source(300, 120, 1000);
            int[][] places = {{400, 120}, {300, 125}, {500, 0}};
            long[] clarities = {0, 1000, NONE};
            for (int k = 0; k < 3; k++) {
                int of = (first + k) % 3;
                x.seat(places[of][0], places[of][1]);
                long clarity = x.heard(0, k, 2);
                if (of == 1) due(18, "some CLARITY", clarity > 900 ? 1000 : clarity, 1000);
                else due(18, "CLARITY", clarity, clarities[of]);
            }
            due(18, "NONE is the least", x.worst(0), (2 - first + 3) % 3);
            x.move((2 - first + 3) % 3, 1, 300, 126);
            due(18, "without it, 0 is", x.worst(0), (3 - first) % 3);
        }
    }

    // ---- promise 19

    /** "UNKNOWN (SOURCE, SEAT), OUTSIDE (the SET, money 0 .. 1000000, what)". */
    private static void asksForBest() {
        Boundaries.range(19, "SOURCE", FURNISHED, 0, 1, UNKNOWN, (x, v) -> x.best(v, 0, 1, 0, 0));
        Boundaries.range(19, "SEAT", FURNISHED, 0, 2, UNKNOWN, (x, v) -> x.best(0, v, 1, 0, 0));
        Boundaries.range(19, "SOURCE of a full hall", FILLED, 0, 3, UNKNOWN, (x, v) -> x.best(v, 7, 1, 0, 0));
        Boundaries.range(19, "SEAT of a full hall", FILLED, 0, 7, UNKNOWN, (x, v) -> x.best(3, v, 1, 0, 0));
        Boundaries.range(19, "money", FURNISHED, 0, 1000000, OUTSIDE, (x, v) -> x.best(0, 0, 1, v, 0));
        Boundaries.range(19, "what", FURNISHED, 0, 2, OUTSIDE, (x, v) -> x.best(0, 0, 1, 0, v));
        Boundaries.range(19, "SET, 30 is all but wall 0", FURNISHED, 0, 30, OUTSIDE,
            (x, v) -> x.best(0, 0, v, 0, 0));
        Boundaries.range(19, "SET without walls", BARE, 0, 0, OUTSIDE, (x, v) -> x.best(0, 0, v, 0, 0));
        Boundaries.refused(19, "no source, SET outside", FURNISHED, UNKNOWN, x -> x.best(2, 0, 31, 0, 0));
        Boundaries.refused(19, "no seat, money outside", FURNISHED, UNKNOWN, x -> x.best(0, 3, 1, -1, 0));
        Boundaries.refused(19, "no seat, what outside", FURNISHED, UNKNOWN, x -> x.best(0, -1, 1, 0, 3));
        Boundaries.refused(19, "all of them", FURNISHED, UNKNOWN, x -> x.best(-1, -1, -1, -1, -1));
    }

    /** "of WALLS that are there, 0 .. 4 of them", "bits 0 .. 15". */
    private static void sets() {
        HallHeard x = FILLED.make();
        int[] allowed = {0, 1, 1 << 15, 0xF, 0xF000, 0x8421, 0x8888};
        for (int set : allowed) due(19, "SET " + set, x.best(0, 0, set, 0, 1) == OUTSIDE ? 1 : 0, 0);
        int[] outside = {0x1F, 0xF800, 0x8C21, 0xFFFF, 1 << 16, 1 << 16 | 1, 1 << 31, 1 << 31 | 1, 1 << 30, -1, -16};
        for (int set : outside) {
            Boundaries.refused(19, "SET " + set, FILLED, OUTSIDE, h -> h.best(0, 0, set, 0, 0));
        }
        x.back();
        due(19, "wall 15 is there no more", x.best(0, 0, 1 << 15, 0, 0), OUTSIDE);
        due(19, "wall 14 is there", x.best(0, 0, 1 << 14, 0, 1), 0);
    }

    private static void chosen(HallHeard x, String sentence, int set, int money, int clarity, int cost, int figures) {
        due(19, sentence + ": CLARITY", x.best(0, 0, set, money, 0), clarity);
        due(19, sentence + ": COST", x.best(0, 0, set, money, 1), cost);
        due(19, sentence + ": STUFFS", x.best(0, 0, set, money, 2), figures);
    }

    /** "for a COST in all of at most a sum": just enough, and 1 too little; none is so cheap is never so. */
    private static void money() {
        HallHeard x = twoPaths();
        x.rule(1, 1);
        int now = (int) x.heard(0, 0, 2);
        int half = (int) (1000 * DIRECT / (DIRECT + 400000000L / 67601));
        chosen(x, "an empty SET", 0, 0, now, 0, 0);
        chosen(x, "one stuff, no money", 1, 0, now, 0, 0);
        chosen(x, "one stuff, all money", 1, 1000000, now, 0, 0);
        x.stuff(40, 100);
        x.stuff(0, 1000);
        chosen(x, "no money", 1, 0, now, 0, 0);
        chosen(x, "1 too little", 1, 999, now, 0, 0);
        chosen(x, "just enough for the one", 1, 1000, half, 1000, 1);
        chosen(x, "1 too little for the other", 1, 9999, half, 1000, 1);
        chosen(x, "just enough for the other", 1, 10000, 1000, 10000, 2);
        chosen(x, "all money", 1, 1000000, 1000, 10000, 2);
        x.cover(0, 2);
        chosen(x, "what is there costs anew", 1, 0, now, 0, 0);
        chosen(x, "a wall that is not of the SET stays", 0, 0, 1000, 0, 0);
    }

    /** "COST of a STUFF times length / 100, cut, of each". */
    private static void costsAreCut() {
        HallHeard x = new HallHeard();
        x.source(300, 120, 1000);
        x.seat(400, 120);
        x.rule(0, 1);
        x.rule(1, 1);
        x.wall(300, 0, 399, 0, 0);
        x.wall(300, 240, 399, 240, 0);
        x.stuff(0, 1);
        chosen(x, "99 / 100 of each is 0", 3, 0, 1000, 0, 9);
        x.back();
        x.wall(300, 240, 400, 240, 0);
        int now = (int) (1000 * DIRECT / (DIRECT + MIRRORED));
        chosen(x, "100 / 100 is 1, which is not there", 3, 0, now, 0, 8);
        chosen(x, "100 / 100 is 1, which is there", 3, 1, 1000, 1, 9);
        x.back();
        x.wall(300, 240, 499, 240, 0);
        chosen(x, "199 / 100 is 1", 3, 1, 1000, 1, 9);
        x.back();
        x.wall(300, 240, 500, 240, 0);
        chosen(x, "200 / 100 is 2", 3, 1, now, 0, 8);
    }

    /** "of several that with the least COST; of these the first, if the WALLS .. have the lesser STUFF". */
    private static void ofSeveral() {
        HallHeard x = twoPaths();
        x.rule(0, 1);
        x.rule(1, 1);
        x.wall(0, 240, 1000, 240, 0);
        x.stuff(0, 9);
        x.stuff(0, 8);
        x.stuff(0, 8);
        int one = (int) (1000 * DIRECT / (DIRECT + MIRRORED));
        chosen(x, "the cheaper one, and of two like ones the first", 1, 1000, one, 80, 2);
        chosen(x, "the first wall keeps the lesser stuff", 3, 159, one, 80, 2);
        chosen(x, "both walls", 3, 160, 1000, 160, 2 * 8 + 2);
        x.stuff(80, 0);
        chosen(x, "without COST the lesser stuff", 3, 0, (int) x.heard(0, 0, 2), 0, 0);
        x.stuff(0, 0);
        chosen(x, "the same for nothing", 3, 160, 1000, 0, 5 * 8 + 5);
    }

    /** "NONE counts as -1": CLARITY 0 for money is better than NONE for nothing. */
    private static void noneCounts() {
        HallHeard x = new HallHeard();
        x.source(300, 120, 1);
        x.seat(400, 120);
        x.rule(0, 1);
        x.stuff(0, 0);
        x.stuff(100, 10);
        x.wall(0, 0, 1000, 0, 1);
        x.wall(350, 110, 350, 130, 0);
        x.wall(0, 591, 1000, 591, 0);
        due(19, "nothing is heard of it now", x.heard(0, 0, 2), NONE);
        chosen(x, "CLARITY 0", 4, 100, 0, 100, 2);
        chosen(x, "too little money", 4, 99, NONE, 0, 0);
        x.cover(2, 2);
        due(19, "as if it were so", x.heard(0, 0, 2), 0);
        chosen(x, "an empty SET", 0, 0, 0, 0, 0);
    }

    /** "one figure each to the base 8, the first the highest": four walls, the last of 16, and stuff 7. */
    private static void figures() {
        HallHeard x = new HallHeard();
        for (int k = 1; k < 7; k++) x.stuff(80, 1000);
        x.stuff(0, 0);
        x.wall(0, 0, 1000, 0, 0);
        for (int k = 1; k < 13; k++) x.wall(0, 990, 0, 990 + (k % 9) + 1, 0);
        x.wall(0, 240, 1000, 240, 0);
        x.wall(0, 0, 0, 240, 0);
        x.wall(1000, 0, 1000, 240, 0);
        x.source(300, 120, 1000);
        x.seat(400, 120);
        x.rule(1, 1);
        chosen(x, "all four of stuff 7", 1 | 7 << 13, 0, 1000, 0, 7 * 512 + 7 * 64 + 7 * 8 + 7);
        chosen(x, "walls of no use are of stuff 0", 1 << 1 | 7 << 13, 0, (int) x.best(0, 0, 7 << 13, 0, 0), 0,
            7 * 64 + 7 * 8 + 7);
        HallHeard y = twoPaths();
        y.rule(1, 1);
        y.stuff(0, 0);
        y.wall(5, 900, 5, 905, 0);
        due(19, "the first wall has the highest figure", y.best(0, 0, 3, 0, 2), 8);
    }

    /** "Nothing is changed", whatever is told. */
    private static void bestChangesNothing() {
        Boundaries.leavesAll(19, "best of the furnished hall", FURNISHED, x -> x.best(0, 0, 15, 1000000, 2));
        Boundaries.leavesAll(19, "best of the full hall", FILLED, x -> x.best(3, 7, 0xF, 1000000, 2));
        Boundaries.leavesAll(18, "worst", FURNISHED, x -> x.worst(1));
        Boundaries.leavesAll(14, "sees", FURNISHED, x -> x.sees(0, 0, 0, 1, 2));
        Boundaries.leavesAll(12, "paths", FURNISHED, x -> x.paths(0, 0, 1));
        Boundaries.leavesAll(9, "rule to what it is", FURNISHED, x -> x.rule(0, 3));
    }

    private static final int[][] SOURCES = {{150, 100, 1000}, {20, 380, 17}, {590, 10, 400}, {299, 201, 999}};
    private static final int[][] SEATS = {{451, 300}, {310, 160}, {150, 100}, {5, 5}, {595, 395}, {70, 210}, {333, 77},
        {480, 20}};

    private static HallHeard roomWithScreen() {
        HallHeard x = new HallHeard();
        x.stuff(10, 3);
        x.wall(0, 0, 600, 0, 0);
        x.wall(600, 0, 600, 400, 0);
        x.wall(600, 400, 0, 400, 0);
        x.wall(0, 400, 0, 0, 0);
        x.wall(300, 150, 300, 220, 0);
        return x;
    }

    private static long[] answersOf(HallHeard x, int source, int seat) {
        return new long[] {x.paths(source, seat, 0), x.paths(source, seat, 1), x.paths(source, seat, NONE),
            x.path(source, seat, 2, 4), x.path(source, seat, 1, 5), x.sees(source, seat, NONE, NONE, NONE),
            x.sees(source, seat, 4, 2, NONE), x.heard(source, seat, 0), x.heard(source, seat, 3),
            x.at(source, seat, 4), x.at(source, seat, 9), x.best(source, seat, 0b10101, 30, 0),
            x.best(source, seat, 0b10101, 30, 1)};
    }

    /** "What has a number has it from 0 on, as it comes": each pair of many is as it is by itself. */
    private static void numbersOfPoints() {
        HallHeard all = roomWithScreen();
        for (int[] p : SOURCES) all.source(p[0], p[1], p[2]);
        for (int[] p : SEATS) all.seat(p[0], p[1]);
        for (int source = 0; source < SOURCES.length; source++) {
            for (int seat = 0; seat < SEATS.length; seat++) {
                HallHeard one = roomWithScreen();
                one.source(SOURCES[source][0], SOURCES[source][1], SOURCES[source][2]);
                one.seat(SEATS[seat][0], SEATS[seat][1]);
                long[] wants = answersOf(one, 0, 0);
                long[] got = answersOf(all, source, seat);
                for (int k = 0; k < got.length; k++) {
                    due(12, "source " + source + ", seat " + seat + ", answer " + k, got[k], wants[k]);
                }
            }
        }
    }

    /** "at most 512 calls": the dearest ones, as many of them, in a full hall. */
    private static void dearestCalls() {
        HallHeard x = FILLED.make();
        x.rule(0, 3);
        int first = x.best(0, 0, 0xF, 1000000, 2);
        int worst = x.worst(3);
        for (int k = 0; k < 200; k++) {
            due(19, "the same answer", x.best(0, 0, 0xF, 1000000, 2), first);
            due(18, "the same seat", x.worst(3), worst);
        }
    }

    public static void main(String[] args) {
        asksWhatIsHeard();
        earlyAndLater();
        bordersAtTheirEnds();
        firstInTime();
        nothingIsHeard();
        clarityAtItsEnds();
        sumsInLongs();
        heardByMost();
        asksForTick();
        asksWhatIsLeft();
        leftByDecay();
        worstSeats();
        worstOfLeastClarity();
        asksForBest();
        sets();
        money();
        costsAreCut();
        ofSeveral();
        noneCounts();
        figures();
        bestChangesNothing();
        numbersOfPoints();
        dearestCalls();
        Boundaries.end("boundaries of what is heard");
    }
}
