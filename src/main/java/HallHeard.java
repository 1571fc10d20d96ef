/**
 * A hall in plan, of walls along and across, and what a seat in it hears of a source.
 *
 * All geometry is exact. A path is followed on the straight line that it is in the unfolded hall: its bounces are
 * fractions of the way along that line, and two fractions are compared by their products.
 */
public final class HallHeard {
    public static final int NONE = -1, UNKNOWN = -1001, OUTSIDE = -1002, NOT = -1003, FULL = -1004;

    private static final int WALLS_AT_MOST = 16;
    private static final int STUFFS_AT_MOST = 8;
    private static final int SOURCES_AT_MOST = 4;
    private static final int SEATS_AT_MOST = 8;
    private static final int SET_AT_MOST = 4;
    private static final int ORDER_AT_MOST = 3;
    private static final int COORDINATE_AT_MOST = 1000;
    private static final int SHARE_AT_MOST = 100;
    private static final int COST_AT_MOST = 1000;
    private static final int POWER_AT_MOST = 1000;
    private static final int BORDER_AT_MOST = 100;
    private static final int TICK_AT_MOST = 300;
    private static final int TIMES_AT_MOST = 100;
    private static final int MONEY_AT_MOST = 1000000;
    private static final long SUM_AT_MOST = 1000000000000L;
    private static final long ENERGY_OF_POWER = 1000000L;
    private static final int LENGTH_OF_TICK = 50;

    /** Every row of up to three walls of sixteen, none twice side by side: 1 + 16 + 16 * 15 + 16 * 15 * 15. */
    private static final int ROWS_AT_MOST = 3857;

    private final Stuffs stuffs;
    private final Walls walls;
    private final Points sources;
    private final Points seats;
    private final int[] powers;
    private final Route route;
    private final Found found;
    private final Sums sums;
    private final Choice choice;
    private int most;
    private int border;

    public HallHeard() {
        stuffs = new Stuffs();
        walls = new Walls();
        sources = new Points(SOURCES_AT_MOST);
        seats = new Points(SEATS_AT_MOST);
        powers = new int[SOURCES_AT_MOST];
        route = new Route();
        found = new Found();
        sums = new Sums();
        choice = new Choice();
        most = 2;
        border = 4;
    }

    // ---- what there is

    public int stuff(int share, int cost) {
        if (!isWithin(share, 0, SHARE_AT_MOST) || !isWithin(cost, 0, COST_AT_MOST)) {
            return OUTSIDE;
        }
        return stuffs.add(share, cost);
    }

    public int wall(int x0, int y0, int x1, int y1, int stuff) {
        if (!stuffs.has(stuff)) {
            return UNKNOWN;
        }
        if (!isPoint(x0, y0) || !isPoint(x1, y1)) {
            return OUTSIDE;
        }
        boolean sameX = x0 == x1;
        boolean sameY = y0 == y1;
        if (sameX == sameY) {
            return OUTSIDE;
        }
        return walls.add(x0, y0, x1, y1, stuff);
    }

    public int cover(int wall, int stuff) {
        if (!walls.has(wall) || !stuffs.has(stuff)) {
            return UNKNOWN;
        }
        int before = walls.stuffOf[wall];
        walls.stuffOf[wall] = stuff;
        return before;
    }

    public int back() {
        if (walls.held == 0) {
            return NOT;
        }
        walls.held--;
        return walls.held;
    }

    public int source(int x, int y, int power) {
        if (!isPoint(x, y) || !isWithin(power, 1, POWER_AT_MOST)) {
            return OUTSIDE;
        }
        int number = sources.add(x, y);
        if (sources.has(number)) {
            powers[number] = power;
        }
        return number;
    }

    public int seat(int x, int y) {
        if (!isPoint(x, y)) {
            return OUTSIDE;
        }
        return seats.add(x, y);
    }

    public int move(int k, int what, int x, int y) {
        if (!isWithin(what, 0, 1)) {
            return OUTSIDE;
        }
        Points points = what == 0 ? sources : seats;
        if (!points.has(k)) {
            return UNKNOWN;
        }
        if (!isPoint(x, y)) {
            return OUTSIDE;
        }
        points.put(k, x, y);
        return 1;
    }

    public int rule(int what, int v) {
        if (what == 0 && isWithin(v, 0, ORDER_AT_MOST)) {
            int before = most;
            most = v;
            return before;
        }
        if (what == 1 && isWithin(v, 1, BORDER_AT_MOST)) {
            int before = border;
            border = v;
            return before;
        }
        return OUTSIDE;
    }

    public int told(int wall, int what) {
        if (!walls.has(wall)) {
            return UNKNOWN;
        }
        if (!isWithin(what, 0, 5)) {
            return OUTSIDE;
        }
        if (what == 4) {
            return walls.stuffOf[wall];
        }
        if (what == 5) {
            return walls.lengthOf(wall);
        }
        return walls.coordinates[4 * wall + what];
    }

    public int count(int what) {
        switch (what) {
            case 0: return walls.held;
            case 1: return stuffs.held;
            case 2: return sources.held;
            case 3: return seats.held;
            case 4: return lineOfHall();
            case 5: return lostInHall();
            case 6: return decayOfHall();
            default: return OUTSIDE;
        }
    }

    // ---- paths

    public int paths(int source, int seat, int order) {
        if (!areThere(source, seat)) {
            return UNKNOWN;
        }
        if (!isWithin(order, NONE, ORDER_AT_MOST)) {
            return OUTSIDE;
        }
        if (order == NONE) {
            find(source, seat, 0, most);
        } else {
            find(source, seat, order, order);
        }
        return found.held;
    }

    public long path(int source, int seat, int i, int what) {
        if (!areThere(source, seat)) {
            return UNKNOWN;
        }
        if (!isWithin(what, 0, 6)) {
            return OUTSIDE;
        }
        find(source, seat, 0, most);
        if (!isWithin(i, 0, found.held - 1)) {
            return NONE;
        }
        switch (what) {
            case 0: return found.orderOf(i);
            case 4: return found.squares[i];
            case 5: return energyOf(i, powers[source], walls.stuffOf);
            case 6: return found.tickOf(i);
            default: return found.wallOf(i, what - 1);
        }
    }

    public int sees(int source, int seat, int a, int b, int c) {
        if (!areThere(source, seat) || !isWallOrNone(a) || !isWallOrNone(b) || !isWallOrNone(c)) {
            return UNKNOWN;
        }
        if ((a == NONE && b != NONE) || (b == NONE && c != NONE)) {
            return OUTSIDE;
        }
        if ((a == b && b != NONE) || (b == c && c != NONE)) {
            return NONE;
        }
        startRoute(source, seat);
        route.order = 0;
        lengthenRoute(a);
        lengthenRoute(b);
        lengthenRoute(c);
        if (!route.hasBounces(walls)) {
            return NONE;
        }
        return route.isSeen(walls) ? 1 : 0;
    }

    // ---- what is heard

    public long heard(int source, int seat, int what) {
        if (!areThere(source, seat)) {
            return UNKNOWN;
        }
        if (!isWithin(what, 0, 4)) {
            return OUTSIDE;
        }
        find(source, seat, 0, most);
        sumUp(powers[source]);
        switch (what) {
            case 0: return sums.early;
            case 1: return sums.later;
            case 2: return clarityOf(sums.early, sums.later);
            case 3: return centreOf(sums.early + sums.later, sums.delayed);
            default: return found.least;
        }
    }

    public long at(int source, int seat, int tick) {
        if (!areThere(source, seat)) {
            return UNKNOWN;
        }
        if (!isWithin(tick, 0, TICK_AT_MOST)) {
            return OUTSIDE;
        }
        find(source, seat, 0, most);
        long sum = 0;
        for (int i = 0; i < found.held; i++) {
            if (found.tickOf(i) == tick) {
                sum += energyOf(i, powers[source], walls.stuffOf);
            }
        }
        return sum;
    }

    public long left(long e, int n) {
        if (e < 0 || e > SUM_AT_MOST || !isWithin(n, 0, TIMES_AT_MOST)) {
            return OUTSIDE;
        }
        long kept = 1000 - decayOfHall();
        long rest = e;
        for (int i = 0; i < n; i++) {
            rest = rest * kept / 1000;
        }
        return rest;
    }

    public int worst(int source) {
        if (!sources.has(source)) {
            return UNKNOWN;
        }
        int worstSeat = NONE;
        int leastClarity = 0;
        for (int seat = 0; seat < seats.held; seat++) {
            find(source, seat, 0, most);
            sumUp(powers[source]);
            int clarity = clarityOf(sums.early, sums.later);
            if (worstSeat == NONE || clarity < leastClarity) {
                worstSeat = seat;
                leastClarity = clarity;
            }
        }
        return worstSeat;
    }

    // ---- walls chosen

    public int best(int source, int seat, int set, int money, int what) {
        if (!areThere(source, seat)) {
            return UNKNOWN;
        }
        if (!isSet(set) || !isWithin(money, 0, MONEY_AT_MOST) || !isWithin(what, 0, 2)) {
            return OUTSIDE;
        }
        find(source, seat, 0, most);
        choice.begin(walls, set, money, powers[source]);
        choice.group(found);
        choose(0, 0);
        if (!choice.isMade) {
            return NOT;
        }
        switch (what) {
            case 0: return choice.clarity;
            case 1: return choice.cost;
            default: return choice.figures;
        }
    }

    // ---- what may be asked

    private static boolean isWithin(int value, int least, int greatest) {
        return value >= least && value <= greatest;
    }

    private static boolean isPoint(int x, int y) {
        return isWithin(x, 0, COORDINATE_AT_MOST) && isWithin(y, 0, COORDINATE_AT_MOST);
    }

    private boolean areThere(int source, int seat) {
        return sources.has(source) && seats.has(seat);
    }

    private boolean isWallOrNone(int wall) {
        return wall == NONE || walls.has(wall);
    }

    private boolean isSet(int set) {
        return isWithin(set, 0, (1 << walls.held) - 1) && Integer.bitCount(set) <= SET_AT_MOST;
    }

    // ---- the balance of the hall

    private int lineOfHall() {
        int line = 0;
        for (int wall = 0; wall < walls.held; wall++) {
            line += walls.lengthOf(wall);
        }
        return line;
    }

    private int lostInHall() {
        int lost = 0;
        for (int wall = 0; wall < walls.held; wall++) {
            lost += walls.lengthOf(wall) * (100 - stuffs.shares[walls.stuffOf[wall]]) / 100;
        }
        return lost;
    }

    private int decayOfHall() {
        int line = lineOfHall();
        return line == 0 ? 0 : 1000 * lostInHall() / line;
    }

    // ---- the search for paths

    private void startRoute(int source, int seat) {
        route.start(sources.x[source], sources.y[source], seats.x[seat], seats.y[seat]);
    }

    private void lengthenRoute(int wall) {
        if (wall != NONE && route.order < ORDER_AT_MOST) {
            route.put(route.order, wall, walls);
            route.order++;
        }
    }

    private void find(int source, int seat, int leastOrder, int greatestOrder) {
        found.clear();
        startRoute(source, seat);
        for (int order = leastOrder; order <= greatestOrder; order++) {
            route.order = order;
            tryRows(0, order);
        }
    }

    /** Tries every row that begins with the walls put so far: in rising order, as the paths are told. */
    private void tryRows(int place, int order) {
        if (place >= order || place >= ORDER_AT_MOST) {
            if (route.hasBounces(walls) && route.isSeen(walls)) {
                found.add(route);
            }
            return;
        }
        for (int wall = 0; wall < walls.held; wall++) {
            if (place == 0 || route.row[place - 1] != wall) {
                route.put(place, wall, walls);
                tryRows(place + 1, order);
            }
        }
    }

    // ---- energy and its sums

    private long energyOf(int i, int power, int[] stuffOfWall) {
        long energy = power * ENERGY_OF_POWER;
        for (int place = 0; place < ORDER_AT_MOST; place++) {
            int wall = found.wallOf(i, place);
            if (wall == NONE) {
                break;
            }
            energy = energy * stuffs.shares[stuffOfWall[wall]] / 100;
        }
        return energy / (found.squares[i] + 1);
    }

    private boolean isEarly(int i) {
        return found.tickOf(i) < found.least + border;
    }

    private void sumUp(int power) {
        sums.clear();
        for (int i = 0; i < found.held; i++) {
            long energy = energyOf(i, power, walls.stuffOf);
            if (isEarly(i)) {
                sums.early += energy;
            } else {
                sums.later += energy;
            }
            sums.delayed += energy * (found.tickOf(i) - found.least);
        }
    }

    private static int clarityOf(long early, long later) {
        long sum = early + later;
        return sum == 0 ? NONE : (int) (1000 * early / sum);
    }

    private static long centreOf(long sum, long delayed) {
        return sum == 0 ? NONE : delayed / sum;
    }

    // ---- the choice of walls

    /** Gives the walls of the set from number {@code given} on every stuff that the money is enough for. */
    private void choose(int given, int cost) {
        hearGroup(given);
        if (given >= choice.size || given >= SET_AT_MOST) {
            choice.weigh(clarityOf(choice.early[given], choice.later[given]), cost);
            return;
        }
        int wall = choice.walls[given];
        for (int stuff = 0; stuff < stuffs.held; stuff++) {
            int costInAll = cost + stuffs.costs[stuff] * walls.lengthOf(wall) / 100;
            if (costInAll <= choice.money) {
                choice.stuffOf[wall] = stuff;
                choose(given + 1, costInAll);
            }
        }
    }

    /** Adds the paths whose last open wall has just been given its stuff to the sums of those ahead of them. */
    private void hearGroup(int group) {
        long early = group == 0 ? 0 : choice.early[group - 1];
        long later = group == 0 ? 0 : choice.later[group - 1];
        for (int k = choice.starts[group]; k < choice.starts[group + 1]; k++) {
            int i = choice.grouped[k];
            long energy = energyOf(i, choice.power, choice.stuffOf);
            if (isEarly(i)) {
                early += energy;
            } else {
                later += energy;
            }
        }
        choice.early[group] = early;
        choice.later[group] = later;
    }

    private static final class Stuffs {
        final int[] shares = new int[STUFFS_AT_MOST];
        final int[] costs = new int[STUFFS_AT_MOST];
        int held = 1;

        Stuffs() {
            shares[0] = 80;
        }

        boolean has(int number) {
            return number >= 0 && number < held;
        }

        int add(int share, int cost) {
            if (held >= STUFFS_AT_MOST) {
                return FULL;
            }
            shares[held] = share;
            costs[held] = cost;
            held++;
            return held - 1;
        }
    }

    private static final class Points {
        final int[] x;
        final int[] y;
        int held = 0;

        Points(int atMost) {
            int room = Math.max(atMost, 0);
            x = new int[room];
            y = new int[room];
        }

        boolean has(int number) {
            return number >= 0 && number < held;
        }

        int add(int atX, int atY) {
            if (held >= x.length) {
                return FULL;
            }
            put(held, atX, atY);
            held++;
            return held - 1;
        }

        void put(int number, int atX, int atY) {
            x[number] = atX;
            y[number] = atY;
        }
    }

    /** A wall lies on a line, where the coordinate of its axis (0: x, 1: y) is the same, from low to high. */
    private static final class Walls {
        final int[] coordinates = new int[4 * WALLS_AT_MOST];
        final int[] stuffOf = new int[WALLS_AT_MOST];
        final int[] axis = new int[WALLS_AT_MOST];
        final int[] line = new int[WALLS_AT_MOST];
        final int[] low = new int[WALLS_AT_MOST];
        final int[] high = new int[WALLS_AT_MOST];
        int held = 0;

        boolean has(int number) {
            return number >= 0 && number < held;
        }

        int add(int x0, int y0, int x1, int y1, int stuff) {
            if (held >= WALLS_AT_MOST) {
                return FULL;
            }
            coordinates[4 * held] = x0;
            coordinates[4 * held + 1] = y0;
            coordinates[4 * held + 2] = x1;
            coordinates[4 * held + 3] = y1;
            stuffOf[held] = stuff;
            boolean sameX = x0 == x1;
            axis[held] = sameX ? 0 : 1;
            line[held] = sameX ? x0 : y0;
            low[held] = sameX ? Math.min(y0, y1) : Math.min(x0, x1);
            high[held] = sameX ? Math.max(y0, y1) : Math.max(x0, x1);
            held++;
            return held - 1;
        }

        int lengthOf(int number) {
            return high[number] - low[number];
        }
    }

    /**
     * One row of walls, tried. Image j is the source mirrored by the first j walls of the row; eye j is the seat
     * mirrored by the walls behind those, from the last one on. Leg j, of those from the seat (j = order) to the
     * source (j = 0), lies on the line from eye j to image j. A fraction of the way along this line stays the same
     * for every j, since a mirror keeps it: so bounce j is at parts[j] / wholes[j] on leg j as on leg j - 1.
     */
    private static final class Route {
        final int[] row = new int[ORDER_AT_MOST];
        final int[] images = new int[2 * (ORDER_AT_MOST + 1)];
        final int[] eyes = new int[2 * (ORDER_AT_MOST + 1)];
        final long[] parts = new long[ORDER_AT_MOST + 2];
        final long[] wholes = new long[ORDER_AT_MOST + 2];
        int seatX = 0;
        int seatY = 0;
        int order = 0;

        void start(int sourceX, int sourceY, int atX, int atY) {
            images[0] = sourceX;
            images[1] = sourceY;
            seatX = atX;
            seatY = atY;
        }

        void put(int place, int wall, Walls walls) {
            row[place] = wall;
            mirror(images, place, place + 1, wall, walls);
        }

        private static void mirror(int[] points, int from, int to, int wall, Walls walls) {
            int axis = walls.axis[wall];
            points[2 * to + axis] = 2 * walls.line[wall] - points[2 * from + axis];
            points[2 * to + 1 - axis] = points[2 * from + 1 - axis];
        }

        long lengthSquared() {
            long dx = images[2 * order] - seatX;
            long dy = images[2 * order + 1] - seatY;
            return dx * dx + dy * dy;
        }

        boolean hasBounces(Walls walls) {
            eyes[2 * order] = seatX;
            eyes[2 * order + 1] = seatY;
            parts[order + 1] = 0;
            wholes[order + 1] = 1;
            for (int j = order; j >= 1; j--) {
                int wall = row[j - 1];
                if (!setBounce(j, wall, walls)) {
                    return false;
                }
                mirror(eyes, j, j - 1, wall, walls);
            }
            parts[0] = 1;
            wholes[0] = 1;
            return true;
        }

        private boolean setBounce(int j, int wall, Walls walls) {
            int axis = walls.axis[wall];
            long way = images[2 * j + axis] - eyes[2 * j + axis];
            long toWall = walls.line[wall] - eyes[2 * j + axis];
            long whole = Math.abs(way);
            long part = way < 0 ? -toWall : toWall;
            boolean isAlongOrNothing = whole == 0;
            boolean isBeyondImage = part >= whole;
            boolean isAheadOfLeg = part * wholes[j + 1] <= parts[j + 1] * whole;
            if (isAlongOrNothing || isBeyondImage || isAheadOfLeg) {
                return false;
            }
            parts[j] = part;
            wholes[j] = whole;
            return isOnWall(j, wall, part, whole, walls);
        }

        /** Whether the line of leg j is, where it meets the line of the wall, ON the wall. */
        private boolean isOnWall(int j, int wall, long part, long whole, Walls walls) {
            long place = sidewaysAt(j, walls.axis[wall], part, whole);
            return place >= walls.low[wall] * whole && place <= walls.high[wall] * whole;
        }

        /** How far along a wall of an axis leg j is at a fraction of its line: times the whole, to stay exact. */
        private long sidewaysAt(int j, int axis, long part, long whole) {
            long from = eyes[2 * j + 1 - axis];
            long to = images[2 * j + 1 - axis];
            return from * whole + (to - from) * part;
        }

        boolean isSeen(Walls walls) {
            for (int j = order; j >= 0; j--) {
                for (int wall = 0; wall < walls.held; wall++) {
                    if (!bouncesAtEnd(j, wall) && meets(j, wall, walls)) {
                        return false;
                    }
                }
            }
            return true;
        }

        private boolean bouncesAtEnd(int j, int wall) {
            return (j >= 1 && row[j - 1] == wall) || (j < order && row[j] == wall);
        }

        private boolean meets(int j, int wall, Walls walls) {
            int axis = walls.axis[wall];
            long way = images[2 * j + axis] - eyes[2 * j + axis];
            long toWall = walls.line[wall] - eyes[2 * j + axis];
            if (way == 0) {
                return toWall == 0 && overlaps(j, wall, walls);
            }
            long whole = Math.abs(way);
            long part = way < 0 ? -toWall : toWall;
            if (part * wholes[j + 1] < parts[j + 1] * whole || part * wholes[j] > parts[j] * whole) {
                return false;
            }
            return isOnWall(j, wall, part, whole, walls);
        }

        /** For a leg on the wall's own line: whether it is not wholly ahead of the wall or behind it. */
        private boolean overlaps(int j, int wall, Walls walls) {
            int axis = walls.axis[wall];
            long begin = sidewaysAt(j, axis, parts[j + 1], wholes[j + 1]);
            long end = sidewaysAt(j, axis, parts[j], wholes[j]);
            long low = walls.low[wall];
            long high = walls.high[wall];
            boolean isBelow = begin < low * wholes[j + 1] && end < low * wholes[j];
            boolean isAbove = begin > high * wholes[j + 1] && end > high * wholes[j];
            return !isBelow && !isAbove;
        }
    }

    /** The paths of the last search, without their energy: that depends on stuffs, which a choice tries out. */
    private static final class Found {
        private static final int BITS_OF_WALL = 5;
        private static final int MASK_OF_WALL = 31;
        private static final int BITS_OF_ROW = BITS_OF_WALL * ORDER_AT_MOST;
        private static final int GREATEST_BIT_OF_ROOT = 1 << 15;

        /**
         * A row's walls in five bits each, one more than their numbers, so that 0 is NONE; above them the tick. One
         * array for both keeps the object small: a run may make as many objects as it has calls.
         */
        final int[] rowsAndTicks = new int[ROWS_AT_MOST];
        final long[] squares = new long[ROWS_AT_MOST];
        int held = 0;
        int least = NONE;

        void clear() {
            held = 0;
            least = NONE;
        }

        void add(Route route) {
            if (held >= ROWS_AT_MOST) {
                return;
            }
            int packed = 0;
            for (int place = 0; place < route.order; place++) {
                packed |= (route.row[place] + 1) << (BITS_OF_WALL * place);
            }
            long square = route.lengthSquared();
            int tick = wholeRoot(square) / LENGTH_OF_TICK;
            rowsAndTicks[held] = packed | tick << BITS_OF_ROW;
            squares[held] = square;
            held++;
            if (least == NONE || tick < least) {
                least = tick;
            }
        }

        int wallOf(int i, int place) {
            return ((rowsAndTicks[i] >> (BITS_OF_WALL * place)) & MASK_OF_WALL) - 1;
        }

        int tickOf(int i) {
            return rowsAndTicks[i] >> BITS_OF_ROW;
        }

        int orderOf(int i) {
            int order = 0;
            for (int place = 0; place < ORDER_AT_MOST; place++) {
                if (wallOf(i, place) != NONE) {
                    order++;
                }
            }
            return order;
        }

        private static int wholeRoot(long square) {
            long root = 0;
            for (long bit = GREATEST_BIT_OF_ROOT; bit > 0; bit >>= 1) {
                if ((root + bit) * (root + bit) <= square) {
                    root += bit;
                }
            }
            return (int) root;
        }
    }

    private static final class Sums {
        long early = 0;
        long later = 0;
        long delayed = 0;

        void clear() {
            early = 0;
            later = 0;
            delayed = 0;
        }
    }

    /**
     * A choice of stuffs for a set of walls. The paths are grouped by the last wall of the set in their rows: group
     * 0 has none of them, and group g is settled as soon as the first g walls are given, so its energy is not
     * summed again for every way to give the walls behind.
     */
    private static final class Choice {
        final int[] walls = new int[SET_AT_MOST];
        final int[] stuffOf = new int[WALLS_AT_MOST];
        final int[] grouped = new int[ROWS_AT_MOST];
        final int[] starts = new int[SET_AT_MOST + 2];
        final long[] early = new long[SET_AT_MOST + 1];
        final long[] later = new long[SET_AT_MOST + 1];
        int size = 0;
        int money = 0;
        int power = 0;
        boolean isMade = false;
        int clarity = NONE;
        int cost = 0;
        int figures = 0;

        void begin(Walls all, int set, int sum, int powerOfSource) {
            size = 0;
            for (int wall = 0; wall < WALLS_AT_MOST; wall++) {
                stuffOf[wall] = all.stuffOf[wall];
                if ((set >> wall & 1) == 1 && size < SET_AT_MOST) {
                    walls[size] = wall;
                    size++;
                }
            }
            money = sum;
            power = powerOfSource;
            isMade = false;
        }

        void group(Found found) {
            int filled = 0;
            for (int group = 0; group <= SET_AT_MOST; group++) {
                starts[group] = filled;
                for (int i = 0; i < found.held; i++) {
                    if (groupOf(found, i) == group) {
                        grouped[filled] = i;
                        filled++;
                    }
                }
            }
            starts[SET_AT_MOST + 1] = filled;
        }

        private int groupOf(Found found, int i) {
            int last = 0;
            for (int place = 0; place < ORDER_AT_MOST; place++) {
                int wall = found.wallOf(i, place);
                for (int k = last; k < size; k++) {
                    if (walls[k] == wall) {
                        last = k + 1;
                    }
                }
            }
            return last;
        }

        /** Ways come by rising stuffs, so of those that are alike the first one stays. */
        void weigh(int clarityNow, int costNow) {
            if (isMade && (clarityNow < clarity || (clarityNow == clarity && costNow >= cost))) {
                return;
            }
            isMade = true;
            clarity = clarityNow;
            cost = costNow;
            figures = 0;
            for (int k = 0; k < size; k++) {
                figures = 8 * figures + stuffOf[walls[k]];
            }
        }
    }
}
