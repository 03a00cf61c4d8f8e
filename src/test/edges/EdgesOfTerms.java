/** Boundary cases of the terms up to JOINTLY. */
final class EdgesOfTerms {
    private static final int[] FAR = {Integer.MIN_VALUE, -7, -1, 7, Integer.MAX_VALUE};

    private EdgesOfTerms() {
    }

    static void run() {
        Sentences.section("Terms");
        Sentences.holds("ROBOTS are 0, 1, .. as many as it was made for.", EdgesOfTerms::robots);
        Sentences.holds("The GRID has a width and a height of 1 .. 6 cells", EdgesOfTerms::sides);
        Sentences.holds("(x from 0, y from 0; 1 and 1 at first),", EdgesOfTerms::cellsFromZero);
        Sentences.holds("with WALLS.", EdgesOfTerms::fromNoWallToAll);
        Sentences.holds("Each robot may have a START and an END, cells without a wall;", EdgesOfTerms::noWallAtPlaces);
        Sentences.holds("no two starts are the same, nor two ends.", EdgesOfTerms::noTwoTheSame);
        Sentences.holds("MOVES: 0 stays, 1 goes to y - 1, 2 to x + 1, 3 to y + 1, 4 to x - 1;", EdgesOfTerms::moves);
        Sentences.holds("not out of the grid,", EdgesOfTerms::notOutOfTheGrid);
        Sentences.holds("not into a wall.", EdgesOfTerms::notIntoAWall);
        Sentences.holds("A STEP is a move of each robot at once,", EdgesOfTerms::allAtOnce);
        Sentences.holds("such that no two are at one cell behind it;", EdgesOfTerms::noTwoAtOneCell);
        Sentences.holds("if SWAPS are barred (at first) no two change their cells.", EdgesOfTerms::swaps);
        Sentences.holds("COST of a step: how many robots do not stay at their ends in it.", EdgesOfTerms::costOfAStep);
        Sentences.holds("A PLAN goes from all starts to all ends; its cost is that of its steps.",
            EdgesOfTerms::wholePlans);
        Sentences.holds("JOINTLY, for two robots at most (and none: cost 0, no step):", EdgesOfTerms::jointlyNone);
        Sentences.holds("a plan at the least cost;", EdgesOfTerms::leastCost);
        Sentences.holds("of such ones each step in turn is the first that keeps the cost least:",
            EdgesOfTerms::firstOfTheLeast);
        Sentences.holds("by the move of robot 0, then by that of robot 1.", EdgesOfTerms::robot0Then1);
    }

    private static void robots() {
        for (int robots = 0; robots <= 4; robots++) {
            JointPlans plans = new JointPlans(robots);
            plans.grid(6, 6);
            for (int robot = 0; robot < robots; robot++) {
                Check.due("start of robot " + robot, plans.start(robot, robot, 0), true);
                Check.due("end of robot " + robot, plans.end(robot, robot, 0), true);
                Check.due("alone", plans.alone(robot), 0);
            }
            plans.solve(0);
            for (int robot = 0; robot < robots; robot++) {
                Check.due("at of robot " + robot, plans.at(robot, 0, 0), robot);
            }
            for (int robot : new int[] {Integer.MIN_VALUE, -1, robots, robots + 1, 4, 5, Integer.MAX_VALUE}) {
                String name = "robot " + robot + " of " + robots + ": ";
                Check.badArgument(name + "start", () -> plans.start(robot, 5, 5));
                Check.badArgument(name + "end", () -> plans.end(robot, 5, 5));
                Check.badArgument(name + "alone", () -> plans.alone(robot));
                Check.badArgument(name + "at", () -> plans.at(robot, 0, 0));
            }
        }
    }

    private static void sides() {
        JointPlans plans = new JointPlans(1);
        for (int width = 1; width <= 6; width++) {
            for (int height = 1; height <= 6; height++) {
                plans.grid(width, height);
                Check.due("width", plans.count(1), width);
                Check.due("height", plans.count(2), height);
                Check.due("the last cell", plans.start(0, width - 1, height - 1), true);
            }
        }
        for (int good = 1; good <= 6; good++) {
            int side = good;
            for (int bad : new int[] {Integer.MIN_VALUE, -1, 0, 7, 8, Integer.MAX_VALUE}) {
                Check.badArgument("grid(" + bad + ", " + side + ")", () -> Scenes.grid(plans, bad, side));
                Check.badArgument("grid(" + side + ", " + bad + ")", () -> Scenes.grid(plans, side, bad));
            }
        }
    }

    private static void cellsFromZero() {
        JointPlans plans = new JointPlans(1);
        Check.due("width at first", plans.count(1), 1);
        Check.due("height at first", plans.count(2), 1);
        Check.due("the one cell", plans.start(0, 0, 0), true);
        int[][] sizes = {{1, 1}, {1, 6}, {6, 1}, {2, 3}, {5, 4}, {6, 6}};
        for (int[] size : sizes) {
            if (size[0] + size[1] > 2) {
                plans.grid(size[0], size[1]);
            }
            int[][] beside = {{-1, 0}, {0, -1}, {size[0], 0}, {0, size[1]}, {size[0], size[1]}, {-1, -1}};
            for (int[] c : beside) {
                String name = "cell " + c[0] + ", " + c[1] + " of " + size[0] + " by " + size[1] + ": ";
                Check.badArgument(name + "start", () -> plans.start(0, c[0], c[1]));
                Check.badArgument(name + "end", () -> plans.end(0, c[0], c[1]));
                Check.thrown(name + "wall", ArrayIndexOutOfBoundsException.class, () -> plans.wall(c[0], c[1], true));
            }
            for (int far : FAR) {
                Check.badArgument("x is " + far, () -> plans.start(0, far, 0));
                Check.badArgument("y is " + far, () -> plans.start(0, 0, far));
            }
            Check.due("the first cell", plans.end(0, 0, 0), true);
            Check.due("the last cell", plans.end(0, size[0] - 1, size[1] - 1), true);
        }
    }

    private static void fromNoWallToAll() {
        for (int side = 1; side <= 6; side++) {
            JointPlans plans = new JointPlans(1);
            plans.grid(side, side);
            Check.due("none at first", plans.count(3), 0);
            for (int i = 0; i < side * side; i++) {
                plans.wall(i % side, i / side, true);
            }
            Check.due("all cells", plans.count(3), side * side);
            for (int i = 0; i < side * side; i++) {
                int x = i % side;
                int y = i / side;
                Check.badState("no room for a start", () -> plans.start(0, x, y));
                Check.badState("no room for an end", () -> plans.end(0, x, y));
            }
            plans.wall(side - 1, side - 1, false);
            Check.due("room for a start", plans.start(0, side - 1, side - 1), true);
            Check.due("room for an end", plans.end(0, side - 1, side - 1), true);
            Check.due("walls all round", plans.solve(0), 0);
        }
    }

    private static void noWallAtPlaces() {
        JointPlans plans = new JointPlans(2);
        plans.grid(3, 1);
        plans.wall(1, 0, true);
        Check.badState("a start at a wall", () -> plans.start(0, 1, 0));
        Check.badState("an end at a wall", () -> plans.end(0, 1, 0));
        Check.due("start and end of a robot", plans.start(0, 0, 0) && plans.end(0, 0, 0), true);
        Check.due("the end of one where another starts", plans.end(1, 2, 0) && plans.start(0, 2, 0), true);
        Check.badState("a wall at start and end", () -> plans.wall(2, 0, true));
        Check.badState("a wall at an end", () -> plans.wall(0, 0, true));
        Check.due("still one wall", plans.count(3), 1);
    }

    private static void noTwoTheSame() {
        for (int one = 0; one < 4; one++) {
            for (int other = 0; other < 4; other++) {
                JointPlans plans = new JointPlans(4);
                plans.grid(1, 2);
                String name = "robots " + one + " and " + other + ": ";
                Check.due(name + "first start", plans.start(one, 0, 1), true);
                Check.due(name + "second start", plans.start(other, 0, 1), one == other);
                Check.due(name + "first end", plans.end(one, 0, 1), true);
                Check.due(name + "second end", plans.end(other, 0, 1), one == other);
            }
        }
    }

    /** From the middle of a grid each move leads to its own neighbour, and of two moves the lower one comes first. */
    private static void moves() {
        String[] neighbours = {"11", "10", "21", "12", "01"};
        for (int move = 0; move < 5; move++) {
            JointPlans plans = Scenes.ways(3, 3, "11>" + neighbours[move]);
            Check.due("cost of move " + move, plans.solve(0), move == 0 ? 0 : 1);
            Check.due("move " + move, Scenes.path(plans, 0), move == 0 ? "11" : "11 " + neighbours[move]);
        }
        String[][] corners = {{"20", "10"}, {"22", "21"}, {"02", "12"}, {"00", "10"}};
        for (String[] corner : corners) {
            JointPlans one = Scenes.ways(3, 3, "11>" + corner[0]);
            Check.due("cost", one.solve(0), 2);
            Check.due("the lower move", Scenes.path(one, 0), "11 " + corner[1] + " " + corner[0]);
            JointPlans three = Scenes.ways(5, 5, "11>" + corner[0], "44>44", "43>43");
            Check.due("cost by priorities", three.solve(0), 2);
            Check.due("the lower move", Scenes.path(three, 0), "11 " + corner[1] + " " + corner[0]);
        }
    }

    /** Ways round an edge, or from the end of one row to the start of the next, would be shorter. */
    private static void notOutOfTheGrid() {
        for (int width = 1; width <= 6; width++) {
            for (int height = 1; height <= 6; height++) {
                String right = (width - 1) + "0";
                String below = "0" + (height - 1);
                String last = "" + (width - 1) + (height - 1);
                needs(width, height, "00>" + right, width - 1);
                needs(width, height, right + ">00", width - 1);
                needs(width, height, "00>" + below, height - 1);
                needs(width, height, below + ">00", height - 1);
                needs(width, height, "00>" + last, width + height - 2);
                needs(width, height, last + ">00", width + height - 2);
                if (height > 1) {
                    needs(width, height, right + ">01", width);
                    needs(width, height, "01>" + right, width);
                }
            }
        }
        Check.due("no room to pass beside a row", Scenes.ways(2, 1, "00>10", "10>00").solve(0), -1);
        Check.due("no room to pass beside a column", Scenes.ways(1, 2, "00>01", "01>00").solve(0), -1);
        Check.due("no room for three", Scenes.ways(3, 1, "00>20", "10>10", "20>00").solve(5), -1);
        JointPlans smaller = new JointPlans(1);
        smaller.grid(6, 6);
        Scenes.draw(smaller, "a#1");
        Check.due("no way outside of a smaller grid", smaller.solve(0), -1);
    }

    private static void needs(int width, int height, String way, int moves) {
        String name = way + " on " + width + " by " + height + ": ";
        JointPlans one = Scenes.ways(width, height, way);
        Check.due(name + "alone", one.alone(0), moves);
        Check.due(name + "solve", one.solve(0), moves);
        if (width < 3 || height < 3) {
            return;
        }
        JointPlans three = Scenes.ways(width, height, way, "11>11", "12>12");
        three.solve(0);
        Check.due(name + "last by priorities", three.last(), moves);
    }

    private static void notIntoAWall() {
        int[][] sides = {{1, 0}, {2, 1}, {1, 2}, {0, 1}};
        for (int robots = 1; robots <= 4; robots++) {
            JointPlans plans = Scenes.drawn(robots, ".#.#BC", "#a#1.D", ".#.#..");
            Check.due("shut in: alone", plans.alone(0), -1);
            Check.due("shut in: solve", plans.solve(0), -1);
        }
        for (int robots = 1; robots <= 4; robots++) {
            JointPlans plans = Scenes.drawn(robots, "#a1#", ".BC.", "#.D#");
            Check.due("walls at the corners", plans.solve(0), 1);
            Check.due("its cells", Scenes.path(plans, 0), "10 20");
        }
        for (int[] side : sides) {
            JointPlans plans = Scenes.drawn(1, ".#.", "#a#", ".#.");
            plans.end(0, 0, 0);
            Check.due("shut in", plans.solve(0), -1);
            plans.wall(side[0], side[1], false);
            plans.end(0, side[0], side[1]);
            Check.due("the side without a wall", plans.solve(0), 1);
        }
    }

    private static void allAtOnce() {
        JointPlans behind = Scenes.ways(3, 1, "00>10", "10>20");
        Check.due("into the cell that robot 1 leaves", behind.solve(0), 2);
        Check.due("in one step", behind.last(), 1);
        JointPlans before = Scenes.ways(3, 1, "10>20", "00>10");
        Check.due("into the cell that robot 0 leaves", before.solve(0), 2);
        Check.due("in one step", before.last(), 1);
        JointPlans four = Scenes.ways(5, 1, "00>10", "10>20", "20>30", "30>40");
        Check.due("four in a row", four.solve(0), 4);
        Check.due("in one step", four.last(), 1);
        JointPlans ring = Scenes.ways(2, 2, "00>10", "10>11", "11>01", "01>00");
        Check.due("four in a ring", ring.solve(0), 4);
        Check.due("in one step", ring.last(), 1);
    }

    /** Robots that change the ends of a row of three meet at its middle cell if they both go. */
    private static void noTwoAtOneCell() {
        JointPlans two = Scenes.ways(3, 1, "00>20", "20>00");
        two.swap(false);
        Check.due("one waits", two.solve(0), 5);
        JointPlans three = Scenes.drawn(3, "...#C");
        three.start(0, 0, 0);
        three.end(0, 2, 0);
        three.start(1, 2, 0);
        three.end(1, 0, 0);
        three.swap(false);
        Check.due("robot 1 waits", three.solve(0), 5);
        Check.due("robot 0 goes", Scenes.path(three, 0), "00 10 20 20");
        Check.due("robot 1", Scenes.path(three, 1), "20 20 10 00");
        JointPlans through = Scenes.drawn(2, "aB1");
        Check.due("not through one that can't make room", through.solve(0), -1);
        PlanRules.check(2, "#b#", "a.1", "#2#");
        PlanRules.check(4, "#bc#", "a..1", "#23#", "D...");
    }

    private static void swaps() {
        JointPlans two = Scenes.ways(2, 1, "00>10", "10>00");
        Check.due("barred at first", two.solve(0), -1);
        two.swap(false);
        Check.due("not barred", two.solve(0), 2);
        two.swap(true);
        Check.due("barred again", two.solve(0), -1);
        JointPlans up = Scenes.ways(1, 2, "01>00", "00>01");
        Check.due("barred at first, in a column", up.solve(0), -1);
        up.swap(false);
        Check.due("not barred, in a column", up.solve(0), 2);
        for (int a = 0; a < 3; a++) {
            for (int b = 0; b < 3; b++) {
                if (a != b) {
                    changeOf(a, b);
                }
            }
        }
    }

    private static void changeOf(int a, int b) {
        JointPlans plans = new JointPlans(3);
        plans.grid(4, 1);
        plans.wall(2, 0, true);
        plans.start(a, 0, 0);
        plans.end(a, 1, 0);
        plans.start(b, 1, 0);
        plans.end(b, 0, 0);
        plans.start(3 - a - b, 3, 0);
        plans.end(3 - a - b, 3, 0);
        String name = "robots " + a + " and " + b + " of three: ";
        Check.due(name + "barred at first", plans.solve(5), -1);
        plans.swap(false);
        Check.due(name + "not barred", plans.solve(0), 2);
    }

    private static void costOfAStep() {
        Check.due("one that stays at its end", Scenes.drawn(2, "a.1", "..B").solve(0), 2);
        Check.due("all stay at their ends", Scenes.drawn(2, "A.B").solve(0), 0);
        Check.due("four stay at their ends", Scenes.drawn(4, "ABCD").solve(0), 0);
        Check.due("one that stays elsewhere", Scenes.drawn(2, "#b#", "a.1", "#2#").solve(0), 5);
        Check.due("one that leaves its end and comes back", Scenes.drawn(2, "aB1", "#.#").solve(0), 4);
        Check.due("one stays elsewhere, of three", Scenes.drawn(3, "#b#C", "a.1#", "#2##").solve(0), 5);
    }

    private static void wholePlans() {
        PlanRules.check(0, "..");
        PlanRules.check(1, "a1");
        PlanRules.check(1, "A");
        PlanRules.check(1, "a.....", "#####.", "......", ".#####", "......", "1####.");
        PlanRules.check(2, "a..2", ".##.", "b..1");
        PlanRules.check(2, "aB1", "#.#");
        PlanRules.check(3, "a..2", ".##.", "b.31", "c...");
        PlanRules.check(4, "abcd..", "..##..", "..4321");
        PlanRules.check(4, "a....2", ".#..#.", "..c4..", "..d3..", ".#..#.", "b....1");
    }

    private static void jointlyNone() {
        for (int robots : new int[] {Integer.MIN_VALUE, -1, 0}) {
            for (int restarts = 0; restarts <= 5; restarts++) {
                JointPlans plans = new JointPlans(robots);
                Check.due("cost", plans.solve(restarts), 0);
                Check.due("cost told again", plans.count(4), 0);
                Check.due("no step", plans.last(), 0);
                Check.due("jointly", plans.exact(), true);
            }
        }
        JointPlans one = Scenes.drawn(1, "A");
        Check.due("one robot at its end", one.solve(0), 0);
        Check.due("no step", one.last(), 0);
        JointPlans two = Scenes.drawn(2, "AB");
        Check.due("two robots at their ends", two.solve(0), 0);
        Check.due("no step", two.last(), 0);
        Check.due("jointly", two.exact(), true);
    }

    /** Each pair of ways on small grids, compared with the least cost that NaivePlans finds. */
    private static void leastCost() {
        everyPair(2, 1, false);
        everyPair(3, 1, false);
        everyPair(2, 2, false);
        everyPair(3, 2, false);
        Check.due("no limit of time jointly", EdgesOfPriorities.longWay(2, "00", "00").solve(0) > 60, true);
    }

    private static void firstOfTheLeast() {
        everyPair(2, 2, true);
        everyPair(3, 2, true);
        Check.due("stay at first", plan("#b#", "a.1", "#2#"), "cost 5, 01 01 11 21, 10 11 12 12");
        Check.due("right before down", plan("a..", "...", "..1"), "cost 4, 00 10 20 21 22");
        Check.due("up before left", plan("1..", "...", "..a"), "cost 4, 22 21 20 10 00");
    }

    private static String plan(String... rows) {
        JointPlans plans = Scenes.drawn(String.join("", rows).contains("b") ? 2 : 1, rows);
        plans.solve(0);
        return Scenes.plan(plans);
    }

    private static void robot0Then1() {
        Check.due("robot 0 waits for robot 1", plan("#b#", "a.1", "#2#"), "cost 5, 01 01 11 21, 10 11 12 12");
        Check.due("robot 0 waits, the other way", plan("#a#", "b.2", "#1#"), "cost 5, 10 10 11 12, 01 11 21 21");
        Check.due("both go up before right", plan("#.1.2", "#....", "#a.b."),
            "cost 6, 12 11 10 20, 32 31 30 40");
        Check.due("robot 1 keeps the lower moves that robot 0 leaves", plan("..1.", "....", "ab.2"),
            "cost 6, 02 01 00 10 20, 12 22 32 32 32");
    }

    private static void everyPair(int width, int height, boolean wholePlan) {
        int cells = width * height;
        for (int i = 0; i < cells * cells * cells * cells; i++) {
            int a = i % cells;
            int b = i / cells % cells;
            int c = i / (cells * cells) % cells;
            int d = i / (cells * cells * cells);
            if (a == b || c == d) {
                continue;
            }
            JointPlans plans = new JointPlans(2);
            NaivePlans naive = new NaivePlans(2);
            plans.grid(width, height);
            naive.grid(width, height);
            int[] places = {a, b, c, d};
            for (int place = 0; place < 4; place++) {
                int x = places[place] % width;
                int y = places[place] / width;
                Check.due("placed", place < 2 ? plans.start(place, x, y) : plans.end(place - 2, x, y), true);
                Check.due("placed", place < 2 ? naive.start(place, x, y) : naive.end(place - 2, x, y), true);
            }
            for (boolean barred : new boolean[] {true, false}) {
                plans.swap(barred);
                naive.swap(barred);
                String name = a + ">" + c + " " + b + ">" + d + " on " + width + " by " + height + ": ";
                Check.due(name + "cost", plans.solve(0), naive.solve(0));
                if (wholePlan && naive.count(4) >= 0) {
                    samePlan(name, plans, naive);
                }
            }
        }
    }

    private static void samePlan(String name, JointPlans plans, NaivePlans naive) {
        Check.due(name + "last", plans.last(), naive.last());
        for (int t = 0; t <= naive.last(); t++) {
            for (int i = 0; i < 4; i++) {
                Check.due(name + "at " + t, plans.at(i / 2, t, i % 2), naive.at(i / 2, t, i % 2));
            }
        }
    }
}
