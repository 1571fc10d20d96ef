import java.math.BigInteger;
import java.util.ArrayList;
import java.util.HashMap;
import java.util.List;
import java.util.Map;

/**
 * The document told again in the plainest and slowest way, for comparison: points are pairs of true fractions, legs
 * and walls are met as any two straight pieces in the plane are, and every answer is worked out anew.
 */
final class PlainHall {
    static final int NONE = -1, UNKNOWN = -1001, OUTSIDE = -1002, NOT = -1003, FULL = -1004;

    record Frac(BigInteger top, BigInteger bottom) {
        static Frac of(long whole) {
            return new Frac(BigInteger.valueOf(whole), BigInteger.ONE);
        }
        static Frac of(BigInteger top, BigInteger bottom) {
            BigInteger g = top.gcd(bottom);
            if (bottom.signum() < 0) g = g.negate();
            return new Frac(top.divide(g), bottom.divide(g));
        }
        Frac plus(Frac o) {
            return of(top.multiply(o.bottom).add(o.top.multiply(bottom)), bottom.multiply(o.bottom));
        }
        Frac minus(Frac o) {
            return of(top.multiply(o.bottom).subtract(o.top.multiply(bottom)), bottom.multiply(o.bottom));
        }
        Frac times(Frac o) {
            return of(top.multiply(o.top), bottom.multiply(o.bottom));
        }
        Frac over(Frac o) {
            return of(top.multiply(o.bottom), bottom.multiply(o.top));
        }
        int sign() {
            return top.signum();
        }
        int against(Frac o) {
            return minus(o).sign();
        }
    }

    record Point(Frac x, Frac y) {
        static Point of(long x, long y) {
            return new Point(Frac.of(x), Frac.of(y));
        }
        Point minus(Point o) {
            return new Point(x.minus(o.x), y.minus(o.y));
        }
        boolean same(Point o) {
            return x.against(o.x) == 0 && y.against(o.y) == 0;
        }
    }

    record Wall(int x0, int y0, int x1, int y1) {
        Point from() {
            return Point.of(x0, y0);
        }
        Point to() {
            return Point.of(x1, y1);
        }
        int length() {
            return Math.abs(x1 - x0) + Math.abs(y1 - y0);
        }
    }

    record Path(List<Integer> row, long square) {
        long tick() {
            return BigInteger.valueOf(square).sqrt().longValue() / 50;
        }
    }

    private final List<int[]> stuffs = new ArrayList<>(List.of(new int[] {80, 0}));
    private final List<Wall> walls = new ArrayList<>();
    private final List<Integer> stuffOf = new ArrayList<>();
    private final List<int[]> sources = new ArrayList<>();
    private final List<int[]> seats = new ArrayList<>();
    private int most = 2;
    private int border = 4;
    /** Paths by source, seat and order, for as long as no wall, source or seat changes. */
    private final Map<Integer, List<Path>> known = new HashMap<>();

    int stuff(int share, int cost) {
        if (share < 0 || share > 100 || cost < 0 || cost > 1000) return OUTSIDE;
        if (stuffs.size() == 8) return FULL;
        stuffs.add(new int[] {share, cost});
        return stuffs.size() - 1;
    }

    int wall(int x0, int y0, int x1, int y1, int stuff) {
        if (stuff < 0 || stuff >= stuffs.size()) return UNKNOWN;
        for (int c : new int[] {x0, y0, x1, y1}) if (c < 0 || c > 1000) return OUTSIDE;
        if (x0 != x1 && y0 != y1) return OUTSIDE;
        if (x0 == x1 && y0 == y1) return OUTSIDE;
        if (walls.size() == 16) return FULL;
        known.clear();
        walls.add(new Wall(x0, y0, x1, y1));
        stuffOf.add(stuff);
        return walls.size() - 1;
    }

    int cover(int wall, int stuff) {
        if (wall < 0 || wall >= walls.size() || stuff < 0 || stuff >= stuffs.size()) return UNKNOWN;
        return stuffOf.set(wall, stuff);
    }

    int back() {
        if (walls.isEmpty()) return NOT;
        known.clear();
        walls.remove(walls.size() - 1);
        stuffOf.remove(stuffOf.size() - 1);
        return walls.size();
    }

    int source(int x, int y, int power) {
        if (x < 0 || x > 1000 || y < 0 || y > 1000 || power < 1 || power > 1000) return OUTSIDE;
        if (sources.size() == 4) return FULL;
        sources.add(new int[] {x, y, power});
        return sources.size() - 1;
    }

    int seat(int x, int y) {
        if (x < 0 || x > 1000 || y < 0 || y > 1000) return OUTSIDE;
        if (seats.size() == 8) return FULL;
        seats.add(new int[] {x, y});
        return seats.size() - 1;
    }

    int move(int k, int what, int x, int y) {
        if (what != 0 && what != 1) return OUTSIDE;
        List<int[]> list = what == 0 ? sources : seats;
        if (k < 0 || k >= list.size()) return UNKNOWN;
        if (x < 0 || x > 1000 || y < 0 || y > 1000) return OUTSIDE;
        known.clear();
        list.get(k)[0] = x;
        list.get(k)[1] = y;
        return 1;
    }

    int rule(int what, int v) {
        if (what == 0) {
            if (v < 0 || v > 3) return OUTSIDE;
            int was = most;
            most = v;
            return was;
        }
        if (what == 1) {
            if (v < 1 || v > 100) return OUTSIDE;
            int was = border;
            border = v;
            return was;
        }
        return OUTSIDE;
    }

    int told(int wall, int what) {
        if (wall < 0 || wall >= walls.size()) return UNKNOWN;
        Wall w = walls.get(wall);
        return switch (what) {
            case 0 -> w.x0();
            case 1 -> w.y0();
            case 2 -> w.x1();
            case 3 -> w.y1();
            case 4 -> stuffOf.get(wall);
            case 5 -> w.length();
            default -> OUTSIDE;
        };
    }

    int count(int what) {
        int line = 0;
        int lost = 0;
        for (int w = 0; w < walls.size(); w++) {
            int length = walls.get(w).length();
            line += length;
            lost += length * (100 - stuffs.get(stuffOf.get(w))[0]) / 100;
        }
        return switch (what) {
            case 0 -> walls.size();
            case 1 -> stuffs.size();
            case 2 -> sources.size();
            case 3 -> seats.size();
            case 4 -> line;
            case 5 -> lost;
            case 6 -> line == 0 ? 0 : 1000 * lost / line;
            default -> OUTSIDE;
        };
    }

    int paths(int source, int seat, int order) {
        if (isUnknown(source, seat)) return UNKNOWN;
        if (order < -1 || order > 3) return OUTSIDE;
        return order == NONE ? heardPaths(source, seat).size() : pathsOfOrder(source, seat, order).size();
    }

    long path(int source, int seat, int i, int what) {
        if (isUnknown(source, seat)) return UNKNOWN;
        if (what < 0 || what > 6) return OUTSIDE;
        List<Path> all = heardPaths(source, seat);
        if (i < 0 || i >= all.size()) return NONE;
        Path p = all.get(i);
        return switch (what) {
            case 0 -> p.row().size();
            case 4 -> p.square();
            case 5 -> energy(p, sources.get(source)[2], stuffOf);
            case 6 -> p.tick();
            default -> what <= p.row().size() ? p.row().get(what - 1) : NONE;
        };
    }

    int sees(int source, int seat, int a, int b, int c) {
        if (isUnknown(source, seat)) return UNKNOWN;
        for (int w : new int[] {a, b, c}) if (w < -1 || w >= walls.size()) return UNKNOWN;
        List<Integer> row = new ArrayList<>();
        boolean ended = false;
        for (int w : new int[] {a, b, c}) {
            if (w == NONE) ended = true;
            else if (ended) return OUTSIDE;
            else row.add(w);
        }
        return follow(source, seat, row);
    }

    long heard(int source, int seat, int what) {
        if (isUnknown(source, seat)) return UNKNOWN;
        if (what < 0 || what > 4) return OUTSIDE;
        return hear(heardPaths(source, seat), sources.get(source)[2], stuffOf)[what];
    }

    long at(int source, int seat, int tick) {
        if (isUnknown(source, seat)) return UNKNOWN;
        if (tick < 0 || tick > 300) return OUTSIDE;
        long sum = 0;
        for (Path p : heardPaths(source, seat)) {
            if (p.tick() == tick) sum += energy(p, sources.get(source)[2], stuffOf);
        }
        return sum;
    }

    long left(long e, int n) {
        if (e < 0 || e > 1000000000000L || n < 0 || n > 100) return OUTSIDE;
        long rest = e;
        for (int i = 0; i < n; i++) rest = rest * (1000 - count(6)) / 1000;
        return rest;
    }

    int worst(int source) {
        if (source < 0 || source >= sources.size()) return UNKNOWN;
        int worst = NONE;
        for (int k = 0; k < seats.size(); k++) {
            if (worst == NONE || heard(source, k, 2) < heard(source, worst, 2)) worst = k;
        }
        return worst;
    }

    int best(int source, int seat, int set, int money, int what) {
        if (isUnknown(source, seat)) return UNKNOWN;
        if (set < 0 || set >= 1 << walls.size() || Integer.bitCount(set) > 4) return OUTSIDE;
        if (money < 0 || money > 1000000 || what < 0 || what > 2) return OUTSIDE;
        List<Integer> chosen = new ArrayList<>();
        for (int w = 0; w < walls.size(); w++) if ((set >> w & 1) == 1) chosen.add(w);
        int ways = 1;
        for (int k = 0; k < chosen.size(); k++) ways *= stuffs.size();
        List<Path> all = heardPaths(source, seat);
        long[] best = null;
        for (int way = 0; way < ways; way++) {
            List<Integer> tried = new ArrayList<>(stuffOf);
            long cost = 0;
            long figures = 0;
            int rest = way;
            long weight = 1;
            for (int k = chosen.size() - 1; k >= 0; k--) {
                int s = rest % stuffs.size();
                rest /= stuffs.size();
                tried.set(chosen.get(k), s);
                cost += stuffs.get(s)[1] * walls.get(chosen.get(k)).length() / 100;
                figures += weight * s;
                weight *= 8;
            }
            if (cost > money) continue;
            long clarity = hear(all, sources.get(source)[2], tried)[2];
            if (best == null || clarity > best[0] || clarity == best[0] && cost < best[1]) {
                best = new long[] {clarity, cost, figures};
            }
        }
        return best == null ? NOT : (int) best[what];
    }

    private boolean isUnknown(int source, int seat) {
        return source < 0 || source >= sources.size() || seat < 0 || seat >= seats.size();
    }

    private long energy(Path p, int power, List<Integer> stuffOfWall) {
        long energy = power * 1000000L;
        for (int w : p.row()) energy = energy * stuffs.get(stuffOfWall.get(w))[0] / 100;
        return energy / (p.square() + 1);
    }

    /** EARLY, LATER, CLARITY, CENTRE, the least TICK. */
    private long[] hear(List<Path> all, int power, List<Integer> stuffOfWall) {
        long least = NONE;
        for (Path p : all) if (least == NONE || p.tick() < least) least = p.tick();
        long early = 0;
        long later = 0;
        long moment = 0;
        for (Path p : all) {
            long energy = energy(p, power, stuffOfWall);
            if (p.tick() < least + border) early += energy;
            else later += energy;
            moment += energy * (p.tick() - least);
        }
        long sum = early + later;
        return new long[] {early, later, sum == 0 ? NONE : 1000 * early / sum, sum == 0 ? NONE : moment / sum, least};
    }

    private List<Path> heardPaths(int source, int seat) {
        List<Path> all = new ArrayList<>();
        for (int order = 0; order <= most; order++) all.addAll(pathsOfOrder(source, seat, order));
        return all;
    }

    private List<Path> pathsOfOrder(int source, int seat, int order) {
        return known.computeIfAbsent(source * 100 + seat * 10 + order, key -> {
            List<Path> all = new ArrayList<>();
            addRows(source, seat, order, List.of(), all);
            return all;
        });
    }

    private void addRows(int source, int seat, int order, List<Integer> row, List<Path> all) {
        if (row.size() == order) {
            if (follow(source, seat, row) == 1) all.add(new Path(row, square(source, seat, row)));
            return;
        }
        for (int w = 0; w < walls.size(); w++) {
            List<Integer> longer = new ArrayList<>(row);
            longer.add(w);
            addRows(source, seat, order, longer, all);
        }
    }

    private List<Point> images(int source, List<Integer> row) {
        List<Point> images = new ArrayList<>();
        images.add(Point.of(sources.get(source)[0], sources.get(source)[1]));
        for (int number : row) {
            Wall w = walls.get(number);
            Point p = images.get(images.size() - 1);
            images.add(w.x0() == w.x1()
                ? new Point(Frac.of(2L * w.x0()).minus(p.x()), p.y())
                : new Point(p.x(), Frac.of(2L * w.y0()).minus(p.y())));
        }
        return images;
    }

    private long square(int source, int seat, List<Integer> row) {
        List<Point> images = images(source, row);
        Point d = images.get(row.size()).minus(Point.of(seats.get(seat)[0], seats.get(seat)[1]));
        return d.x().times(d.x()).plus(d.y().times(d.y())).top().longValueExact();
    }

    /** 1 SEEN, 0 not SEEN, NONE no BOUNCES. */
    private int follow(int source, int seat, List<Integer> row) {
        for (int k = 1; k < row.size(); k++) if (row.get(k).equals(row.get(k - 1))) return NONE;
        List<Point> images = images(source, row);
        List<Point> stops = new ArrayList<>();
        stops.add(Point.of(seats.get(seat)[0], seats.get(seat)[1]));
        for (int k = row.size(); k >= 1; k--) {
            Point bounce = bounce(stops.get(stops.size() - 1), images.get(k), walls.get(row.get(k - 1)));
            if (bounce == null) return NONE;
            stops.add(bounce);
        }
        stops.add(images.get(0));
        for (int leg = 0; leg + 1 < stops.size(); leg++) {
            int wallBehind = leg == 0 ? NONE : row.get(row.size() - leg);
            int wallAhead = leg == row.size() ? NONE : row.get(row.size() - leg - 1);
            for (int w = 0; w < walls.size(); w++) {
                if (w == wallBehind || w == wallAhead) continue;
                if (meet(stops.get(leg), stops.get(leg + 1), walls.get(w).from(), walls.get(w).to())) return 0;
            }
        }
        return 1;
    }

    private static Frac cross(Point a, Point b) {
        return a.x().times(b.y()).minus(a.y().times(b.x()));
    }

    private static Point bounce(Point from, Point image, Wall wall) {
        Point leg = image.minus(from);
        Point along = wall.to().minus(wall.from());
        Frac turn = cross(leg, along);
        if (turn.sign() == 0) return null;
        Point gap = wall.from().minus(from);
        Frac onLeg = cross(gap, along).over(turn);
        Frac onWall = cross(gap, leg).over(turn);
        if (onLeg.sign() <= 0 || onLeg.against(Frac.of(1)) >= 0) return null;
        if (onWall.sign() < 0 || onWall.against(Frac.of(1)) > 0) return null;
        return new Point(from.x().plus(leg.x().times(onLeg)), from.y().plus(leg.y().times(onLeg)));
    }

    /** Whether two closed straight pieces have a point in common: by the sides that their ends are on. */
    private static boolean meet(Point a, Point b, Point c, Point d) {
        int s1 = cross(b.minus(a), c.minus(a)).sign();
        int s2 = cross(b.minus(a), d.minus(a)).sign();
        int s3 = cross(d.minus(c), a.minus(c)).sign();
        int s4 = cross(d.minus(c), b.minus(c)).sign();
        if (!a.same(b) && s1 * s2 < 0 && s3 * s4 < 0) return true;
        return s3 == 0 && isBetween(c, d, a) || s4 == 0 && isBetween(c, d, b)
            || !a.same(b) && (s1 == 0 && isBetween(a, b, c) || s2 == 0 && isBetween(a, b, d));
    }

    /** For a point on the line of two others: whether it is in the box that they span. */
    private static boolean isBetween(Point a, Point b, Point p) {
        return isBetween(a.x(), b.x(), p.x()) && isBetween(a.y(), b.y(), p.y());
    }

    private static boolean isBetween(Frac a, Frac b, Frac p) {
        return a.minus(p).sign() * b.minus(p).sign() <= 0;
    }
}
