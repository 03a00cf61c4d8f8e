import java.util.Arrays;

/** Joint plans of a few robots on a grid with walls: shared/DOC.md says what each call promises. */
public final class JointPlans {
    /** No cell, no cost, no robot: what a row holds where nothing is known. */
    private static final int NONE = -1;
    private static final int MOST_ROBOTS = 4;
    private static final int MOST_JOINTLY = 2;
    private static final int MOST_RESTARTS = 5;
    private static final int SIDE = 6;
    private static final int CELLS = 36;
    private static final int MOVES = 5;
    private static final int STAY = 0;
    private static final int[] MOVE_X = {0, 0, 1, 0, -1};
    private static final int[] MOVE_Y = {0, -1, 0, 1, 0};
    /** The time at which each robot is at its end, in plans by priorities. */
    private static final int HORIZON = 40;

    private final int robots;
    private final Scene scene;
    private final Shuffle shuffle;
    private final Planner planner;
    private final Plan plan;

    public JointPlans(int robots) {
        this.robots = Math.max(0, Math.min(MOST_ROBOTS, robots));
        scene = new Scene(this.robots);
        scene.renew(1, 1);
        shuffle = new Shuffle(this.robots);
        planner = this.robots <= MOST_JOINTLY ? new JointSearch(scene) : new PrioritySearch(scene, shuffle);
        plan = new Plan(this.robots, mostSteps(this.robots));
    }

    public void grid(int width, int height) throws IllegalArgumentException {
        if (width < 1 || width > SIDE || height < 1 || height > SIDE) {
            throw new IllegalArgumentException("a grid's sides are 1 .. 6");
        }
        scene.renew(width, height);
        plan.drop();
    }

    public boolean wall(int x, int y, boolean on) throws ArrayIndexOutOfBoundsException, IllegalStateException {
        int cell = scene.floor.cellAt(x, y);
        if (cell == NONE) {
            throw new ArrayIndexOutOfBoundsException("no such cell");
        }
        if (ownerOf(scene.starts, cell) != NONE || ownerOf(scene.ends, cell) != NONE) {
            throw new IllegalStateException("a start or an end is there");
        }
        return scene.floor.build(cell, on);
    }

    public boolean start(int robot, int x, int y) throws IllegalArgumentException, IllegalStateException {
        return settle(scene.starts, robot, x, y);
    }

    public boolean end(int robot, int x, int y) throws IllegalArgumentException, IllegalStateException {
        return settle(scene.ends, robot, x, y);
    }

    public boolean swap(boolean barred) {
        boolean before = scene.swapsBarred;
        scene.swapsBarred = barred;
        return before;
    }

    public void seed(int x) throws IllegalArgumentException {
        if (x < 0) {
            throw new IllegalArgumentException("a seed is 0 at least");
        }
        shuffle.state = x;
    }

    public int solve(int restarts) throws IllegalArgumentException, IllegalStateException {
        if (restarts < 0 || restarts > MOST_RESTARTS) {
            throw new IllegalArgumentException("restarts are 0 .. 5");
        }
        needComplete();
        plan.drop();
        planner.make(plan, restarts);
        return plan.cost;
    }

    public boolean exact() {
        return robots <= MOST_JOINTLY && plan.isMade();
    }

    public int at(int robot, int t, int axis) throws IllegalArgumentException, IllegalStateException {
        needRobot(robot);
        if (t < 0 || axis < 0 || axis > 1) {
            throw new IllegalArgumentException("t is 0 at least, axis 0 or 1");
        }
        needPlan();
        int cell = plan.cellOf(robot, Math.min(t, plan.steps));
        return axis == 0 ? cell % SIDE : cell / SIDE;
    }

    public int last() throws IllegalStateException {
        needPlan();
        return plan.steps;
    }

    public int alone(int robot) throws IllegalArgumentException, IllegalStateException {
        needRobot(robot);
        if (!scene.isComplete(robot)) {
            throw new IllegalStateException("the robot has no start or no end");
        }
        return scene.way(robot);
    }

    public int bound() throws IllegalStateException {
        needComplete();
        return scene.allWays();
    }

    public int share() throws IllegalStateException, ArithmeticException {
        needPlan();
        needComplete();
        int cost = plan.cost;
        if (cost == 0) {
            throw new ArithmeticException("the plan's cost is 0");
        }
        return 100 * scene.allWays() / cost;
    }

    public int count(int what) {
        switch (what) {
            case 0:
                return robots;
            case 1:
                return scene.floor.width;
            case 2:
                return scene.floor.height;
            case 3:
                return scene.floor.walls;
            case 4:
                return plan.cost;
            default:
                return NONE;
        }
    }

    private boolean settle(int[] places, int robot, int x, int y) {
        needRobot(robot);
        int cell = scene.floor.cellAt(x, y);
        if (cell == NONE) {
            throw new IllegalArgumentException("no such cell");
        }
        if (scene.floor.isWall(cell)) {
            throw new IllegalStateException("a wall is there");
        }
        int owner = ownerOf(places, cell);
        if (owner != NONE && owner != robot) {
            return false;
        }
        write(places, robot, cell);
        return true;
    }

    private void needRobot(int robot) {
        if (robot < 0 || robot >= robots) {
            throw new IllegalArgumentException("no such robot");
        }
    }

    private void needComplete() {
        for (int robot = 0; robot < robots; robot++) {
            if (!scene.isComplete(robot)) {
                throw new IllegalStateException("a robot is without start or end");
            }
        }
    }

    private void needPlan() {
        if (!plan.isMade()) {
            throw new IllegalStateException("there is no plan");
        }
    }

    /** A plan at the least cost comes to no joint state twice; one by priorities ends at the horizon. */
    private static int mostSteps(int robots) {
        return robots <= MOST_JOINTLY ? jointStates(robots) - 1 : HORIZON;
    }

    private static int jointStates(int robots) {
        return robots <= 0 ? 1 : robots == 1 ? CELLS : CELLS * CELLS;
    }

    /** The robot whose place a cell is, or NONE. */
    private static int ownerOf(int[] places, int cell) {
        for (int robot = 0; robot < places.length; robot++) {
            if (places[robot] == cell) {
                return robot;
            }
        }
        return NONE;
    }

    /** What one robot adds to the cost of a step. */
    private static int ownCost(int from, int to, int end) {
        return from == to && to == end ? 0 : 1;
    }

    /** Every computed index goes through read and write, so that the machine never has to refuse one. */
    private static int read(int[] row, int index) {
        return index >= 0 && index < row.length ? row[index] : NONE;
    }

    private static void write(int[] row, int index, int value) {
        if (index >= 0 && index < row.length) {
            row[index] = value;
        }
    }

    /** The grid and its walls; a cell's number is x + 6 * y for every width, so that plans need no width. */
    private static final class Floor {
        private final int[] wallAt = new int[CELLS];
        private final int[] after = new int[CELLS * MOVES];
        private final int[] distance = new int[CELLS];
        private final int[] queue = new int[CELLS];
        private int width;
        private int height;
        private int walls;

        private void clear(int newWidth, int newHeight) {
            width = newWidth;
            height = newHeight;
            walls = 0;
            Arrays.fill(wallAt, 0);
            chart();
        }

        private int cellAt(int x, int y) {
            return x >= 0 && x < width && y >= 0 && y < height ? x + SIDE * y : NONE;
        }

        private boolean isWall(int cell) {
            return read(wallAt, cell) == 1;
        }

        /** Puts a wall up or takes it away: whether there was one. */
        private boolean build(int cell, boolean on) {
            boolean before = isWall(cell);
            if (before != on) {
                write(wallAt, cell, on ? 1 : 0);
                walls += on ? 1 : -1;
                chart();
            }
            return before;
        }

        /** The searches ask for moves far more often than walls change: all moves are worked out ahead. */
        private void chart() {
            for (int cell = 0; cell < CELLS; cell++) {
                for (int move = 0; move < MOVES; move++) {
                    write(after, cell * MOVES + move, target(cell, move));
                }
            }
        }

        private int target(int cell, int move) {
            int x = cell % SIDE;
            int y = cell / SIDE;
            int there = cellAt(x + read(MOVE_X, move), y + read(MOVE_Y, move));
            boolean open = cellAt(x, y) != NONE && !isWall(cell);
            return open && there != NONE && !isWall(there) ? there : NONE;
        }

        /** The cell to which a move leads, or NONE if it can't be made. */
        private int moved(int cell, int move) {
            return cell == NONE ? NONE : read(after, cell * MOVES + move);
        }

        /** The fewest moves from one cell to another, or NONE. */
        private int movesBetween(int from, int to) {
            Arrays.fill(distance, NONE);
            write(distance, from, 0);
            write(queue, 0, from);
            int tail = 1;
            for (int head = 0; head < tail && head < CELLS; head++) {
                tail = spread(queue[head], tail);
            }
            return read(distance, to);
        }

        private int spread(int cell, int tail) {
            int newTail = tail;
            for (int move = 0; move < MOVES; move++) {
                int there = moved(cell, move);
                if (there != NONE && read(distance, there) == NONE) {
                    write(distance, there, read(distance, cell) + 1);
                    write(queue, newTail, there);
                    newTail++;
                }
            }
            return newTail;
        }
    }

    /** What a plan is made for: the grid, the robots' starts and ends, and the rule for swaps. */
    private static final class Scene {
        private final int robots;
        private final Floor floor = new Floor();
        private final int[] starts;
        private final int[] ends;
        private boolean swapsBarred = true;

        private Scene(int robots) {
            this.robots = robots;
            starts = new int[robots];
            ends = new int[robots];
        }

        private void renew(int width, int height) {
            floor.clear(width, height);
            Arrays.fill(starts, NONE);
            Arrays.fill(ends, NONE);
        }

        private boolean isComplete(int robot) {
            return read(starts, robot) != NONE && read(ends, robot) != NONE;
        }

        private int way(int robot) {
            return floor.movesBetween(read(starts, robot), read(ends, robot));
        }

        /** The sum of the ways of all robots, or NONE if one of them has none. */
        private int allWays() {
            int sum = 0;
            for (int robot = 0; robot < robots; robot++) {
                int way = way(robot);
                if (way == NONE) {
                    return NONE;
                }
                sum += way;
            }
            return sum;
        }
    }

    /** Where each robot is at each time; a cost of NONE means that no plan is made. */
    private static final class Plan {
        private final int robots;
        private final int[] cells;
        private int steps;
        private int cost = NONE;

        private Plan(int robots, int mostSteps) {
            this.robots = robots;
            cells = new int[robots * (mostSteps + 1)];
        }

        private boolean isMade() {
            return cost != NONE;
        }

        private void drop() {
            cost = NONE;
            steps = 0;
        }

        private int cellOf(int robot, int t) {
            return read(cells, t * robots + robot);
        }

        private void put(int robot, int t, int cell) {
            write(cells, t * robots + robot, cell);
        }

        private void copy(Plan other) {
            for (int i = 0; i < cells.length; i++) {
                cells[i] = read(other.cells, i);
            }
            steps = other.steps;
            cost = other.cost;
        }
    }

    /** A way to make plans. */
    private interface Planner {
        /** Makes the plan that was dropped before; leaves it so if there is none. */
        void make(Plan plan, int restarts);
    }

    /**
     * At least cost for two robots at most. A state is the cell of robot 0 plus 36 times that of robot 1;
     * a robot that is not there stands at 0, its end, and only stays, so that it costs nothing.
     */
    private static final class JointSearch implements Planner {
        private final Scene scene;
        private final int robots;
        private final int[] left;
        private final int[] reached;
        private int reachedCount;
        private int firstEnd;
        private int secondEnd;

        private JointSearch(Scene scene) {
            this.scene = scene;
            robots = scene.robots;
            left = new int[jointStates(robots)];
            reached = new int[jointStates(robots)];
        }

        public void make(Plan plan, int restarts) {
            firstEnd = placeOf(scene.ends, 0);
            secondEnd = placeOf(scene.ends, 1);
            int from = placeOf(scene.starts, 0) + CELLS * placeOf(scene.starts, 1);
            measure(from, firstEnd + CELLS * secondEnd);
            plan.cost = read(left, from);
            if (plan.isMade()) {
                plan.steps = walk(plan, from);
            }
        }

        private int placeOf(int[] places, int robot) {
            return robot < robots ? read(places, robot) : 0;
        }

        /**
         * Works out the cost that is left, backwards from the goal, until the start is known. Steps cost 1 or 2:
         * the states of a level come by cost 1 from the level before it and by cost 2 from the one before that.
         */
        private void measure(int from, int goal) {
            Arrays.fill(left, NONE);
            reachedCount = 0;
            reach(goal, 0);
            int older = 0;
            int newer = 0;
            for (int level = 1; level <= 2 * left.length && older < reachedCount; level++) {
                if (read(left, from) != NONE) {
                    return;
                }
                int newest = reachedCount;
                for (int i = older; i < newest; i++) {
                    reachBefore(read(reached, i), i < newer ? 2 : 1, level);
                }
                older = newer;
                newer = newest;
            }
        }

        /** Reaches the states from which a step at this cost leads here: steps go back just as they go forth. */
        private void reachBefore(int state, int cost, int level) {
            int first = state % CELLS;
            int second = state / CELLS;
            for (int i = 0; i < MOVES; i++) {
                int a = next(0, first, i);
                for (int j = 0; j < MOVES && a != NONE; j++) {
                    int b = next(1, second, j);
                    if (b != NONE && stepCost(a, b, first, second) == cost && fits(first, second, a, b)) {
                        reach(a + CELLS * b, level);
                    }
                }
            }
        }

        private void reach(int state, int cost) {
            if (read(left, state) == NONE) {
                write(left, state, cost);
                write(reached, reachedCount, state);
                reachedCount++;
            }
        }

        private int walk(Plan plan, int from) {
            int state = from;
            int steps = 0;
            note(plan, 0, state);
            while (steps < mostSteps(robots) && read(left, state) > 0) {
                state = follow(state);
                steps++;
                note(plan, steps, state);
            }
            return steps;
        }

        private void note(Plan plan, int t, int state) {
            if (robots > 0) {
                plan.put(0, t, state % CELLS);
            }
            if (robots > 1) {
                plan.put(1, t, state / CELLS);
            }
        }

        /** The state behind the first step that keeps the cost least. */
        private int follow(int state) {
            int first = state % CELLS;
            int second = state / CELLS;
            for (int i = 0; i < MOVES; i++) {
                int a = next(0, first, i);
                for (int j = 0; j < MOVES && a != NONE; j++) {
                    int b = next(1, second, j);
                    if (b != NONE && fits(first, second, a, b) && keeps(state, a, b)) {
                        return a + CELLS * b;
                    }
                }
            }
            return state;
        }

        private boolean keeps(int state, int a, int b) {
            int rest = read(left, a + CELLS * b);
            return rest != NONE && rest + stepCost(state % CELLS, state / CELLS, a, b) == read(left, state);
        }

        private int next(int robot, int cell, int move) {
            if (robot < robots) {
                return scene.floor.moved(cell, move);
            }
            return move == STAY ? cell : NONE;
        }

        private int stepCost(int first, int second, int a, int b) {
            return ownCost(first, a, firstEnd) + ownCost(second, b, secondEnd);
        }

        private boolean fits(int first, int second, int a, int b) {
            boolean change = scene.swapsBarred && a == second && b == first;
            return robots < 2 || a != b && !change;
        }
    }

    /** One robot behind the other, by several orders of priorities. */
    private static final class PrioritySearch implements Planner {
        private final Scene scene;
        private final Shuffle shuffle;
        private final Plan trial;
        /** For each time and cell: what the robot in hand still has to pay, and which earlier robot is there. */
        private final int[] left = new int[(HORIZON + 1) * CELLS];
        private final int[] taken = new int[(HORIZON + 1) * CELLS];

        private PrioritySearch(Scene scene, Shuffle shuffle) {
            this.scene = scene;
            this.shuffle = shuffle;
            trial = new Plan(scene.robots, mostSteps(scene.robots));
        }

        public void make(Plan plan, int restarts) {
            shuffle.reset();
            for (int i = 0; i <= restarts; i++) {
                if (i > 0) {
                    shuffle.draw();
                }
                tryOrder();
                if (trial.isMade() && (!plan.isMade() || trial.cost < plan.cost)) {
                    plan.copy(trial);
                }
            }
        }

        private void tryOrder() {
            Arrays.fill(taken, NONE);
            trial.drop();
            int sum = 0;
            for (int place = 0; place < scene.robots; place++) {
                int robot = read(shuffle.order, place);
                int start = read(scene.starts, robot);
                int end = read(scene.ends, robot);
                measure(end);
                int cost = read(left, start);
                if (cost == NONE) {
                    return;
                }
                sum += cost;
                walk(robot, start, end);
                occupy(robot);
            }
            trial.cost = sum;
            trial.steps = stepsOfTrial();
        }

        /** Leads one robot round those before it, by what is measured for its end. */
        private void walk(int robot, int start, int end) {
            int cell = start;
            trial.put(robot, 0, cell);
            for (int t = 0; t < HORIZON; t++) {
                cell = follow(t, cell, end);
                trial.put(robot, t + 1, cell);
            }
        }

        private void occupy(int robot) {
            for (int t = 0; t <= HORIZON; t++) {
                write(taken, t * CELLS + trial.cellOf(robot, t), robot);
            }
        }

        private void measure(int end) {
            for (int cell = 0; cell < CELLS; cell++) {
                int place = HORIZON * CELLS + cell;
                write(left, place, cell == end && read(taken, place) == NONE ? 0 : NONE);
            }
            for (int t = HORIZON - 1; t >= 0; t--) {
                for (int cell = 0; cell < CELLS; cell++) {
                    write(left, t * CELLS + cell, leastFrom(t, cell, end));
                }
            }
        }

        private int leastFrom(int t, int cell, int end) {
            int least = NONE;
            if (scene.floor.moved(cell, STAY) == NONE || read(taken, t * CELLS + cell) != NONE) {
                return NONE;
            }
            for (int move = 0; move < MOVES; move++) {
                int cost = costBy(t, cell, scene.floor.moved(cell, move), end);
                if (cost != NONE && (least == NONE || cost < least)) {
                    least = cost;
                }
            }
            return least;
        }

        /** The least cost from a time and cell on if the next cell is there, or NONE. */
        private int costBy(int t, int cell, int there, int end) {
            int rest = there == NONE ? NONE : read(left, (t + 1) * CELLS + there);
            if (rest == NONE) {
                return NONE;
            }
            int other = read(taken, t * CELLS + there);
            boolean change = other != NONE && read(taken, (t + 1) * CELLS + cell) == other;
            return change && scene.swapsBarred ? NONE : rest + ownCost(cell, there, end);
        }

        /** The cell behind the lowest move that keeps the cost least. */
        private int follow(int t, int cell, int end) {
            int least = read(left, t * CELLS + cell);
            for (int move = 0; move < MOVES; move++) {
                int there = scene.floor.moved(cell, move);
                if (there != NONE && costBy(t, cell, there, end) == least) {
                    return there;
                }
            }
            return cell;
        }

        /** All are at their ends at the horizon: the steps in which they only stay there are none of the plan's. */
        private int stepsOfTrial() {
            int steps = HORIZON;
            while (steps > 0 && allAtEnds(steps - 1)) {
                steps--;
            }
            return steps;
        }

        private boolean allAtEnds(int t) {
            for (int robot = 0; robot < scene.robots; robot++) {
                if (trial.cellOf(robot, t) != read(scene.ends, robot)) {
                    return false;
                }
            }
            return true;
        }
    }

    /** Orders of priorities, by a seed that goes on from order to order. */
    private static final class Shuffle {
        private final int[] order;
        private long state = 1;

        private Shuffle(int robots) {
            order = new int[robots];
        }

        private void reset() {
            for (int place = 0; place < order.length; place++) {
                order[place] = place;
            }
        }

        private void draw() {
            reset();
            for (int k = 1; k < order.length; k++) {
                state = (state * 1103515245L + 12345L) % 2147483648L;
                exchange(k, (int) (state / 65536L % (k + 1)));
            }
        }

        private void exchange(int one, int other) {
            int robot = read(order, one);
            write(order, one, read(order, other));
            write(order, other, robot);
        }
    }
}
