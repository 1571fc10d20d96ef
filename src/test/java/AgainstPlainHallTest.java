/** Long runs of calls, right and wrong, on HallHeard and on the plain slow hall: every answer has to be the same. */
public final class AgainstPlainHallTest {
    private static final int CALLS = 512;

    private final int run;
    private final HallHeard fast = new HallHeard();
    private final PlainHall slow = new PlainHall();
    private final int grid;
    private final int step;
    private final int wallsWanted;
    private long state;
    private int wrong = 0;

    private AgainstPlainHallTest(int run) {
        this.run = run;
        this.state = 88172645463325252L + 7919L * run;
        for (int i = 0; i < 8; i++) next(2);
        // A coarse grid makes corners, bounces at ends and legs along walls common; a fine one makes odd fractions.
        int[][] grids = {{4, 10}, {6, 50}, {8, 125}, {10, 100}, {1000, 1}, {20, 7}};
        int[] chosen = grids[run % grids.length];
        grid = chosen[0];
        step = chosen[1];
        int[] sizes = {3, 5, 7, 10};
        wallsWanted = run % 16 == 15 ? 16 : sizes[next(sizes.length)];
    }

    private int next(int bound) {
        state ^= state << 13;
        state ^= state >>> 7;
        state ^= state << 17;
        return (int) Math.floorMod(state, (long) bound);
    }

    private int coordinate() {
        return step * next(grid + 1);
    }

    private void same(String call, long got, long want) {
        if (got != want) {
            wrong++;
            System.out.println("run " + run + ": " + call + " answered " + got + ", the plain hall " + want);
        }
    }

    private void wall(int x0, int y0, int x1, int y1, int stuff) {
        same("wall(" + x0 + ", " + y0 + ", " + x1 + ", " + y1 + ", " + stuff + ")",
            fast.wall(x0, y0, x1, y1, stuff), slow.wall(x0, y0, x1, y1, stuff));
    }

    private void anyWall() {
        int x = coordinate();
        int y = coordinate();
        int stuff = next(slow.count(1));
        if (next(2) == 0) wall(x, y, x, coordinate(), stuff);
        else wall(x, y, coordinate(), y, stuff);
    }

    private void furnish() {
        int far = grid * step;
        for (int i = next(4) == 0 ? 7 : next(3); i > 0; i--) {
            int share = next(101);
            int cost = next(3) == 0 ? 0 : next(1001);
            same("stuff(" + share + ", " + cost + ")", fast.stuff(share, cost), slow.stuff(share, cost));
        }
        if (next(3) > 0) {
            wall(0, 0, far, 0, 0);
            wall(far, 0, far, far, 0);
            wall(far, far, 0, far, 0);
            wall(0, far, 0, 0, 0);
        }
        for (int i = 0; i < 60 && slow.count(0) < wallsWanted; i++) anyWall();
        for (int i = 1 + next(2); i > 0; i--) {
            int x = coordinate();
            int y = coordinate();
            int power = 1 + next(1000);
            same("source", fast.source(x, y, power), slow.source(x, y, power));
        }
        for (int i = 1 + next(4); i > 0; i--) {
            int x = coordinate();
            int y = coordinate();
            same("seat", fast.seat(x, y), slow.seat(x, y));
        }
    }

    /** Mostly a number that is there, now and then one that is not. */
    private int number(int held) {
        if (next(25) == 0) return new int[] {-1, -2, held, held + 1, Integer.MIN_VALUE, Integer.MAX_VALUE}[next(6)];
        return held == 0 ? 0 : next(held);
    }

    private int within(int least, int greatest) {
        if (next(25) == 0) return new int[] {least - 1, greatest + 1, Integer.MIN_VALUE, Integer.MAX_VALUE}[next(4)];
        return least + next(greatest - least + 1);
    }

    private int maybeWall() {
        return next(3) == 0 ? HallHeard.NONE : number(slow.count(0));
    }

    private int set() {
        if (next(20) == 0) return within(-5, 70000);
        int set = 0;
        int held = slow.count(0);
        for (int i = next(5); i > 0 && held > 0; i--) set |= 1 << next(held);
        return set;
    }

    private void change() {
        int a = next(7);
        if (a == 0 && slow.count(0) > wallsWanted / 2) same("back", fast.back(), slow.back());
        else if (a == 1 && slow.count(0) < wallsWanted) anyWall();
        else if (a == 2) {
            int wall = number(slow.count(0));
            int stuff = number(slow.count(1));
            same("cover", fast.cover(wall, stuff), slow.cover(wall, stuff));
        } else if (a == 3) {
            int what = within(0, 1);
            int k = number(slow.count(what == 0 ? 2 : 3));
            int x = next(25) == 0 ? within(0, 1000) : coordinate();
            int y = next(25) == 0 ? within(0, 1000) : coordinate();
            same("move", fast.move(k, what, x, y), slow.move(k, what, x, y));
        } else if (a == 4) {
            int what = within(0, 1);
            int v = what == 0 ? within(0, 3) : within(1, next(2) == 0 ? 6 : 100);
            same("rule(" + what + ", " + v + ")", fast.rule(what, v), slow.rule(what, v));
        } else if (a == 5) {
            int x = within(0, 1000);
            int y = within(0, 1000);
            same("seat", fast.seat(x, y), slow.seat(x, y));
        } else {
            wall(within(0, 9), within(0, 9), within(0, 9), within(0, 9), number(slow.count(1)));
            if (slow.count(0) > wallsWanted) same("back", fast.back(), slow.back());
        }
    }

    private void ask() {
        int source = number(slow.count(2));
        int seat = number(slow.count(3));
        String who = source + ", " + seat + ", ";
        int a = next(14);
        if (a < 2) {
            int order = within(-1, 3);
            same("paths(" + who + order + ")", fast.paths(source, seat, order), slow.paths(source, seat, order));
        } else if (a < 5) {
            int i = next(10) == 0 ? within(-1, 100) : next(20);
            int what = within(0, 6);
            same("path(" + who + i + ", " + what + ")", fast.path(source, seat, i, what),
                slow.path(source, seat, i, what));
        } else if (a < 8) {
            int x = maybeWall();
            int y = maybeWall();
            int z = maybeWall();
            same("sees(" + who + x + ", " + y + ", " + z + ")", fast.sees(source, seat, x, y, z),
                slow.sees(source, seat, x, y, z));
        } else if (a < 10) {
            int what = within(0, 4);
            same("heard(" + who + what + ")", fast.heard(source, seat, what), slow.heard(source, seat, what));
        } else if (a == 10) {
            int tick = next(3) == 0 ? within(0, 300) : within(0, 20);
            same("at(" + who + tick + ")", fast.at(source, seat, tick), slow.at(source, seat, tick));
        } else if (a == 11) {
            same("worst(" + source + ")", fast.worst(source), slow.worst(source));
        } else if (a == 12) {
            askBest(source, seat);
        } else {
            askBalance();
        }
    }

    private void askBest(int source, int seat) {
        if (next(4) != 0) return;
        int set = set();
        int money = next(3) == 0 ? within(0, 1000000) : within(0, 20 * step * grid);
        for (int what = 0; what < 3; what++) {
            same("best(" + source + ", " + seat + ", " + set + ", " + money + ", " + what + ")",
                fast.best(source, seat, set, money, what), slow.best(source, seat, set, money, what));
        }
    }

    private void askBalance() {
        int what = within(0, 6);
        same("count(" + what + ")", fast.count(what), slow.count(what));
        int wall = number(slow.count(0));
        int of = within(0, 5);
        same("told(" + wall + ", " + of + ")", fast.told(wall, of), slow.told(wall, of));
        long e = next(2) == 0 ? next(1000000) : 1000000000000L - 3 + next(5);
        int n = within(0, 100);
        same("left(" + e + ", " + n + ")", fast.left(e, n), slow.left(e, n));
    }

    private int play() {
        furnish();
        for (int i = 0; i < CALLS / 2; i++) {
            if (next(6) == 0) change();
            else ask();
        }
        return wrong;
    }

    public static void main(String[] args) {
        int runs = args.length > 0 ? Integer.parseInt(args[0]) : 48;
        int from = args.length > 1 ? Integer.parseInt(args[1]) : 0;
        int wrong = 0;
        for (int run = from; run < from + runs; run++) wrong += new AgainstPlainHallTest(run).play();
        System.out.println(wrong == 0 ? runs + " runs are as the plain hall's" : wrong + " answers differ");
        if (wrong != 0) System.exit(1);
    }
}
