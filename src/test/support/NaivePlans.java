import java.math.BigInteger;
import java.util.ArrayList;
import java.util.Arrays;
import java.util.HashMap;
import java.util.HashSet;
import java.util.List;
import java.util.Map;
import java.util.Set;
import java.util.TreeSet;

/**
 * The document once more, written for tests and in another way than the program: routes grow forwards, as texts of
 * moves, and of two routes to one place the cheaper one is kept, of equal ones the one whose text is first.
 */
final class NaivePlans {
    private static final int[] DX = {0, 0, 1, 0, -1};
    private static final int[] DY = {0, -1, 0, 1, 0};

    private record Cell(int x, int y) {
    }

    private record Route(int cost, String moves, List<List<Cell>> rows) {
        boolean isBefore(Route other) {
            return other == null || cost < other.cost || cost == other.cost && moves.compareTo(other.moves) < 0;
        }
    }

    private final int robots;
    private int width = 1;
    private int height = 1;
    private boolean[][] walls = new boolean[6][6];
    private Cell[] starts;
    private Cell[] ends;
    private boolean barred = true;
    private long seed = 1;
    /** One row of cells for each time, up to the last step. */
    private List<List<Cell>> plan = null;
    private int cost = -1;

    NaivePlans(int robots) {
        this.robots = robots < 0 ? 0 : robots > 4 ? 4 : robots;
        starts = new Cell[this.robots];
        ends = new Cell[this.robots];
    }

    void grid(int width, int height) {
        if (width < 1 || width > 6 || height < 1 || height > 6) {
            throw new IllegalArgumentException();
        }
        this.width = width;
        this.height = height;
        walls = new boolean[6][6];
        starts = new Cell[robots];
        ends = new Cell[robots];
        plan = null;
        cost = -1;
    }

    private boolean inside(Cell c) {
        return c.x >= 0 && c.y >= 0 && c.x < width && c.y < height;
    }

    boolean wall(int x, int y, boolean on) {
        Cell c = new Cell(x, y);
        if (!inside(c)) {
            throw new ArrayIndexOutOfBoundsException();
        }
        if (Arrays.asList(starts).contains(c) || Arrays.asList(ends).contains(c)) {
            throw new IllegalStateException();
        }
        boolean before = walls[x][y];
        walls[x][y] = on;
        return before;
    }

    boolean start(int robot, int x, int y) {
        return place(starts, robot, new Cell(x, y));
    }

    boolean end(int robot, int x, int y) {
        return place(ends, robot, new Cell(x, y));
    }

    private boolean place(Cell[] row, int robot, Cell c) {
        if (robot < 0 || robot >= robots || !inside(c)) {
            throw new IllegalArgumentException();
        }
        if (walls[c.x][c.y]) {
            throw new IllegalStateException();
        }
        for (int i = 0; i < robots; i++) {
            if (i != robot && c.equals(row[i])) {
                return false;
            }
        }
        row[robot] = c;
        return true;
    }

    boolean swap(boolean on) {
        boolean before = barred;
        barred = on;
        return before;
    }

    void seed(int x) {
        if (x < 0) {
            throw new IllegalArgumentException();
        }
        seed = x;
    }

    private void allPlaced() {
        for (int i = 0; i < robots; i++) {
            if (starts[i] == null || ends[i] == null) {
                throw new IllegalStateException();
            }
        }
    }

    int solve(int restarts) {
        if (restarts < 0 || restarts > 5) {
            throw new IllegalArgumentException();
        }
        allPlaced();
        Route found = robots <= 2 ? jointly() : byPriorities(restarts);
        plan = found == null ? null : found.rows;
        cost = found == null ? -1 : found.cost;
        return cost;
    }

    private Cell after(Cell c, int move) {
        Cell there = new Cell(c.x + DX[move], c.y + DY[move]);
        return inside(there) && !walls[there.x][there.y] ? there : null;
    }

    /** All steps from a row of cells, as texts of one move a robot, in the order of those texts. */
    private List<String> stepsFrom(List<Cell> row) {
        List<String> all = new ArrayList<>(List.of(""));
        for (int i = 0; i < row.size(); i++) {
            List<String> longer = new ArrayList<>();
            for (String s : all) {
                for (int m = 0; m < 5; m++) {
                    if (after(row.get(i), m) != null) {
                        longer.add(s + m);
                    }
                }
            }
            all = longer;
        }
        all.removeIf(s -> clashes(row, apply(row, s)));
        return all;
    }

    private List<Cell> apply(List<Cell> row, String step) {
        List<Cell> next = new ArrayList<>();
        for (int i = 0; i < row.size(); i++) {
            next.add(after(row.get(i), step.charAt(i) - '0'));
        }
        return next;
    }

    private boolean clashes(List<Cell> from, List<Cell> to) {
        for (int i = 0; i < from.size(); i++) {
            for (int j = 0; j < i; j++) {
                boolean change = from.get(i).equals(to.get(j)) && from.get(j).equals(to.get(i));
                if (to.get(i).equals(to.get(j)) || barred && change) {
                    return true;
                }
            }
        }
        return false;
    }

    private Route extend(Route route, String step) {
        List<Cell> here = route.rows.get(route.rows.size() - 1);
        int more = 0;
        for (int i = 0; i < here.size(); i++) {
            more += step.charAt(i) == '0' && here.get(i).equals(ends[i]) ? 0 : 1;
        }
        List<List<Cell>> rows = new ArrayList<>(route.rows);
        rows.add(apply(here, step));
        return new Route(route.cost + more, route.moves + step, rows);
    }

    private Route jointly() {
        Map<List<Cell>, Route> best = new HashMap<>();
        TreeSet<Route> open = new TreeSet<>((p, q) ->
            p.cost != q.cost ? Integer.compare(p.cost, q.cost) : p.moves.compareTo(q.moves));
        List<Cell> goal = Arrays.asList(ends);
        Route first = new Route(0, "", List.of(List.of(starts)));
        best.put(List.of(starts), first);
        open.add(first);
        while (!open.isEmpty()) {
            Route route = open.pollFirst();
            List<Cell> here = route.rows.get(route.rows.size() - 1);
            if (here.equals(goal)) {
                return route;
            }
            if (best.get(here) != route) {
                continue;
            }
            for (String step : stepsFrom(here)) {
                Route longer = extend(route, step);
                List<Cell> there = longer.rows.get(longer.rows.size() - 1);
                if (longer.isBefore(best.get(there))) {
                    best.put(there, longer);
                    open.add(longer);
                }
            }
        }
        return null;
    }

    private Route byPriorities(int restarts) {
        Route best = null;
        for (int i = 0; i <= restarts; i++) {
            int[] order = {0, 1, 2, 3};
            for (int k = 1; k < robots && i > 0; k++) {
                seed = BigInteger.valueOf(seed).multiply(BigInteger.valueOf(1103515245))
                    .add(BigInteger.valueOf(12345)).mod(BigInteger.valueOf(2147483648L)).longValue();
                int other = (int) ((seed / 65536) % (k + 1));
                int kept = order[k];
                order[k] = order[other];
                order[other] = kept;
            }
            Route found = inOrder(order);
            if (found != null && (best == null || found.cost < best.cost)) {
                best = found;
            }
        }
        return best;
    }

    private Route inOrder(int[] order) {
        Cell[][] ways = new Cell[robots][];
        int sum = 0;
        for (int place = 0; place < robots; place++) {
            int robot = order[place];
            String moves = oneBehind(robot, order, place, ways);
            if (moves == null) {
                return null;
            }
            ways[robot] = new Cell[41];
            ways[robot][0] = starts[robot];
            for (int t = 0; t < 40; t++) {
                ways[robot][t + 1] = after(ways[robot][t], moves.charAt(t) - '0');
                boolean stays = moves.charAt(t) == '0' && ways[robot][t].equals(ends[robot]);
                sum += stays ? 0 : 1;
            }
        }
        List<List<Cell>> rows = new ArrayList<>();
        for (int t = 0; t <= 40; t++) {
            List<Cell> row = new ArrayList<>();
            for (int i = 0; i < robots; i++) {
                row.add(ways[i][t]);
            }
            rows.add(row);
        }
        List<Cell> goal = Arrays.asList(ends);
        while (rows.size() > 1 && rows.get(rows.size() - 1).equals(goal) && rows.get(rows.size() - 2).equals(goal)) {
            rows.remove(rows.size() - 1);
        }
        return new Route(sum, "", rows);
    }

    private String oneBehind(int robot, int[] order, int place, Cell[][] ways) {
        Route[][] now = new Route[6][6];
        now[starts[robot].x][starts[robot].y] = new Route(0, "", null);
        for (int t = 0; t < 40; t++) {
            Route[][] then = new Route[6][6];
            for (int x = 0; x < width; x++) {
                for (int y = 0; y < height; y++) {
                    for (int m = 0; m < 5 && now[x][y] != null; m++) {
                        Cell here = new Cell(x, y);
                        Cell there = after(here, m);
                        if (there == null || isInTheWay(here, there, t, order, place, ways)) {
                            continue;
                        }
                        int more = m == 0 && here.equals(ends[robot]) ? 0 : 1;
                        Route longer = new Route(now[x][y].cost + more, now[x][y].moves + m, null);
                        if (longer.isBefore(then[there.x][there.y])) {
                            then[there.x][there.y] = longer;
                        }
                    }
                }
            }
            now = then;
        }
        Route found = now[ends[robot].x][ends[robot].y];
        return found == null ? null : found.moves;
    }

    private boolean isInTheWay(Cell here, Cell there, int t, int[] order, int place, Cell[][] ways) {
        for (int i = 0; i < place; i++) {
            Cell[] way = ways[order[i]];
            boolean change = way[t].equals(there) && way[t + 1].equals(here);
            if (way[t + 1].equals(there) || barred && change) {
                return true;
            }
        }
        return false;
    }

    boolean exact() {
        return plan != null && robots <= 2;
    }

    int at(int robot, int t, int axis) {
        if (robot < 0 || robot >= robots || t < 0 || axis != 0 && axis != 1) {
            throw new IllegalArgumentException();
        }
        int steps = last();
        Cell c = plan.get(t > steps ? steps : t).get(robot);
        return axis == 0 ? c.x : c.y;
    }

    int last() {
        if (plan == null) {
            throw new IllegalStateException();
        }
        return plan.size() - 1;
    }

    int alone(int robot) {
        if (robot < 0 || robot >= robots) {
            throw new IllegalArgumentException();
        }
        if (starts[robot] == null || ends[robot] == null) {
            throw new IllegalStateException();
        }
        Set<Cell> known = new HashSet<>(List.of(starts[robot]));
        for (int n = 0; n <= 36; n++) {
            if (known.contains(ends[robot])) {
                return n;
            }
            for (Cell c : List.copyOf(known)) {
                for (int m = 1; m < 5; m++) {
                    if (after(c, m) != null) {
                        known.add(after(c, m));
                    }
                }
            }
        }
        return -1;
    }

    int bound() {
        allPlaced();
        int sum = 0;
        for (int i = 0; i < robots; i++) {
            if (alone(i) < 0) {
                return -1;
            }
            sum += alone(i);
        }
        return sum;
    }

    int share() {
        last();
        int bound = bound();
        if (cost == 0) {
            throw new ArithmeticException();
        }
        return 100 * bound / cost;
    }

    int count(int what) {
        int sum = 0;
        for (boolean[] column : walls) {
            for (boolean wall : column) {
                sum += wall ? 1 : 0;
            }
        }
        int[] all = {robots, width, height, sum, cost};
        return what < 0 || what > 4 ? -1 : all[what];
    }
}
