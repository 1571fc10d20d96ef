/**
 * A source, a seat and walls, looked at from every side: turned and mirrored in the square of coordinates, with the
 * ends of all walls exchanged, and with source and seat exchanged (then the row comes backwards). What is seen stays
 * the same.
 */
final class Scene {
    private static final int TURNS = 8;

    private final int[] source;
    private final int[] seat;
    private final int[] walls;

    private Scene(int[] source, int[] seat, int[] walls) {
        this.source = source;
        this.seat = seat;
        this.walls = walls;
    }

    /** The walls come in fours: x0, y0, x1, y1. */
    static Scene of(int sourceX, int sourceY, int seatX, int seatY, int... walls) {
        return new Scene(new int[] {sourceX, sourceY}, new int[] {seatX, seatY}, walls);
    }

    /** With walls more. */
    Scene and(int... more) {
        int[] all = java.util.Arrays.copyOf(walls, walls.length + more.length);
        System.arraycopy(more, 0, all, walls.length, more.length);
        return new Scene(source, seat, all);
    }

    /** {@code want} as sees answers; and it is among the paths once if it is seen, and else never. */
    void sees(String sentence, int want, int... row) {
        for (int turn = 0; turn < TURNS; turn++) {
            for (int change = 0; change < 4; change++) {
                boolean swapped = (change & 1) == 1;
                boolean backwards = (change & 2) == 2;
                HallHeard x = hall(turn, swapped, backwards);
                int[] asked = padded(row, backwards);
                String name = sentence + " (turn " + turn + ", change " + change + ")";
                Boundaries.due(14, name, x.sees(0, 0, asked[0], asked[1], asked[2]), want);
                Boundaries.due(12, name + " among all", timesTold(x, asked), want == 1 ? 1 : 0);
            }
        }
    }

    HallHeard hall() {
        return hall(0, false, false);
    }

    private HallHeard hall(int turn, boolean swapped, boolean backwards) {
        HallHeard x = new HallHeard();
        int[] a = turned(turn, backwards ? seat : source, 0);
        int[] b = turned(turn, backwards ? source : seat, 0);
        x.source(a[0], a[1], 1000);
        x.seat(b[0], b[1]);
        for (int k = 0; k < walls.length; k += 4) {
            int[] from = turned(turn, walls, swapped ? k + 2 : k);
            int[] to = turned(turn, walls, swapped ? k : k + 2);
            if (x.wall(from[0], from[1], to[0], to[1], 0) != k / 4) Boundaries.fault(3, "wall " + k / 4);
        }
        x.rule(0, 3);
        return x;
    }

    private static int[] turned(int turn, int[] points, int from) {
        int x = (turn & 1) == 0 ? points[from] : 1000 - points[from];
        int y = (turn & 2) == 0 ? points[from + 1] : 1000 - points[from + 1];
        return (turn & 4) == 0 ? new int[] {x, y} : new int[] {y, x};
    }

    private static int[] padded(int[] row, boolean backwards) {
        int[] asked = {-1, -1, -1};
        for (int k = 0; k < row.length; k++) asked[k] = backwards ? row[row.length - 1 - k] : row[k];
        return asked;
    }

    private static int timesTold(HallHeard x, int[] row) {
        int times = 0;
        int all = x.paths(0, 0, -1);
        for (int i = 0; i < all; i++) {
            boolean same = true;
            for (int k = 0; k < 3; k++) same &= x.path(0, 0, i, k + 1) == row[k];
            if (same) times++;
        }
        return times;
    }
}
