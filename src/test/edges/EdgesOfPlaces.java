/** Boundary cases of promises 1 to 7: a new object, grid, wall, start, end, swap and seed. */
final class EdgesOfPlaces {
    private EdgesOfPlaces() {
    }

    static void run() {
        Sentences.section("Promise 1: A new object");
        Sentences.holds("For so many robots;", EdgesOfPlaces::soManyRobots);
        Sentences.holds("below 0 as 0,", EdgesOfPlaces::belowNone);
        Sentences.holds("above 4 as 4.", EdgesOfPlaces::aboveFour);

        Sentences.section("Promise 2: grid");
        Sentences.holds("A new grid, without walls, starts, ends and a plan.", EdgesOfPlaces::newGrid);
        Sentences.holds("IllegalArgumentException.", EdgesOfPlaces::refusedGrid);

        Sentences.section("Promise 3: wall");
        Sentences.holds("A wall is at a cell, or not: whether there was one.", EdgesOfPlaces::wallOrNot);
        Sentences.holds("ArrayIndexOutOfBoundsException (the machine's own): there is no such cell;",
            EdgesOfPlaces::wallBesideTheGrid);
        Sentences.holds("IllegalStateException: a start or end is there.", EdgesOfPlaces::wallAtAPlace);

        Sentences.section("Promise 4: start");
        Places starts = new Places(true);
        Sentences.holds("A robot's start (instead of an earlier one; a plan stays): true;",
            starts::insteadOfAnEarlierOne);
        Sentences.holds("false, and it stays, if another one starts there.", starts::takenByAnother);
        Sentences.holds("IllegalArgumentException: no such robot or cell;", starts::noSuchRobotOrCell);
        Sentences.holds("IllegalStateException: a wall is there.", starts::wallIsThere);

        Sentences.section("Promise 5: end");
        Places ends = new Places(false);
        Sentences.holds("A robot's end, likewise.", ends::insteadOfAnEarlierOne);
        Sentences.holds("A robot's end, likewise.", ends::takenByAnother);
        Sentences.holds("A robot's end, likewise.", ends::noSuchRobotOrCell);
        Sentences.holds("A robot's end, likewise.", ends::wallIsThere);

        Sentences.section("Promise 6: swap");
        Sentences.holds("Swaps are barred, or not: whether they were.", EdgesOfPlaces::whetherTheyWere);

        Sentences.section("Promise 7: seed");
        Sentences.holds("The seed is this.", EdgesOfPlaces::seedIsThis);
        Sentences.holds("IllegalArgumentException: it is below 0.", EdgesOfPlaces::seedBelowNone);
    }

    private static void isFor(int asked, int robots) {
        JointPlans plans = new JointPlans(asked);
        String name = "new JointPlans(" + asked + "): ";
        Check.due(name + "robots", plans.count(0), robots);
        plans.grid(6, 1);
        for (int robot = 0; robot < robots; robot++) {
            Check.due(name + "start of " + robot, plans.start(robot, robot, 0), true);
            Check.due(name + "end of " + robot, plans.end(robot, robot, 0), true);
        }
        Check.badArgument(name + "one too many", () -> plans.start(robots, 5, 0));
        Check.due(name + "bound", plans.bound(), 0);
        Check.due(name + "solve", plans.solve(0), 0);
    }

    private static void soManyRobots() {
        for (int robots = 0; robots <= 4; robots++) {
            isFor(robots, robots);
        }
    }

    private static void belowNone() {
        for (int robots : new int[] {-1, -2, -4, -5, Integer.MIN_VALUE + 1, Integer.MIN_VALUE}) {
            isFor(robots, 0);
        }
    }

    private static void aboveFour() {
        for (int robots : new int[] {5, 6, 8, 36, 1 << 30, Integer.MAX_VALUE}) {
            isFor(robots, 4);
        }
    }

    private static void newGrid() {
        for (int robots = 0; robots <= 4; robots++) {
            JointPlans plans = Scenes.drawn(robots, "abcd", "1234", "####", "....");
            Check.due("a plan", plans.solve(0), robots);
            Check.due("walls", plans.count(3), 4);
            plans.grid(4, 4);
            isEmpty(plans, 4, 4);
            plans.grid(1, 1);
            isEmpty(plans, 1, 1);
            for (int i = 0; i < 36; i++) {
                if (i == 0) {
                    plans.grid(6, 6);
                }
                plans.wall(i % 6, i / 6, true);
            }
            plans.grid(2, 2);
            plans.grid(6, 6);
            isEmpty(plans, 6, 6);
        }
        JointPlans one = Scenes.drawn(1, "a#1");
        one.grid(3, 1);
        one.start(0, 0, 0);
        one.end(0, 2, 0);
        Check.due("no wall bars a move", one.solve(0), 2);
    }

    private static void isEmpty(JointPlans plans, int width, int height) {
        Check.due("width", plans.count(1), width);
        Check.due("height", plans.count(2), height);
        Check.due("no walls", plans.count(3), 0);
        Check.due("no plan", plans.count(4), -1);
        Check.due("no plan is exact", plans.exact(), false);
        Check.badState("no plan has a last step", plans::last);
        Check.badState("no plan has a share", plans::share);
        for (int robot = 0; robot < plans.count(0); robot++) {
            int r = robot;
            Check.badState("no start and no end", () -> plans.alone(r));
            Check.badState("no plan", () -> plans.at(r, 0, 0));
            plans.end(robot, 0, 0);
            Check.badState("no start", () -> plans.alone(r));
            plans.grid(width, height);
            plans.start(robot, 0, 0);
            Check.badState("no end", () -> plans.alone(r));
            plans.grid(width, height);
        }
        if (plans.count(0) > 0) {
            Check.badState("nothing to solve", () -> plans.solve(0));
            Check.badState("no bound", plans::bound);
        }
        for (int i = 0; i < width * height; i++) {
            Check.due("no wall, start or end there", plans.wall(i % width, i / width, true), false);
        }
        plans.grid(width, height);
    }

    private static void refusedGrid() {
        int[] sides = {Integer.MIN_VALUE, -6, -1, 0, 7, 12, Integer.MAX_VALUE};
        for (int robots = 0; robots <= 4; robots++) {
            JointPlans plans = Scenes.drawn(robots, "abcd", "1234", "#..#");
            plans.solve(0);
            String before = Scenes.state(plans);
            for (int bad : sides) {
                Check.badArgument("width " + bad, () -> Scenes.grid(plans, bad, 3));
                Check.badArgument("height " + bad, () -> Scenes.grid(plans, 3, bad));
                Check.badArgument("both " + bad, () -> Scenes.grid(plans, bad, bad));
            }
            Check.due("all stays", Scenes.state(plans), before);
        }
        for (int side : new int[] {1, 6}) {
            Check.due("the edge " + side, Check.answer(() -> Scenes.grid(new JointPlans(1), side, 7 - side)), "done");
        }
    }

    private static void wallOrNot() {
        JointPlans plans = new JointPlans(1);
        plans.grid(6, 5);
        Check.due("off where none is", plans.wall(4, 2, false), false);
        Check.due("none is counted", plans.count(3), 0);
        Check.due("on", plans.wall(4, 2, true), false);
        Check.due("one is counted", plans.count(3), 1);
        Check.due("on where one is", plans.wall(4, 2, true), true);
        Check.due("one is counted still", plans.count(3), 1);
        for (int i = 0; i < 30; i++) {
            int x = i % 6;
            int y = i / 6;
            boolean there = x == 4 && y == 2;
            Object want = there ? "throws java.lang.IllegalStateException" : true;
            Check.due("only that cell is a wall", Check.answer(() -> plans.start(0, x, y)), want);
        }
        Check.due("off", plans.wall(4, 2, false), true);
        Check.due("none is counted again", plans.count(3), 0);
        Check.due("off again", plans.wall(4, 2, false), false);
        JointPlans one = new JointPlans(0);
        Check.due("the only cell", one.wall(0, 0, true), false);
        Check.due("it is a wall", one.wall(0, 0, true), true);
        JointPlans made = Scenes.drawn(1, "a.1");
        made.solve(0);
        made.wall(1, 0, true);
        Check.due("a plan stays", Scenes.plan(made), "cost 2, 00 10 20");
    }

    private static void wallBesideTheGrid() {
        for (int width = 1; width <= 6; width++) {
            for (int height = 1; height <= 6; height++) {
                JointPlans plans = new JointPlans(2);
                plans.grid(width, height);
                int[][] cells = {
                    {-1, 0}, {0, -1}, {-1, -1}, {width, 0}, {0, height}, {width, height}, {width, height - 1},
                    {width - 1, height}, {6, 0}, {0, 6}, {-6, 1}, {Integer.MIN_VALUE, 0}, {0, Integer.MIN_VALUE},
                    {Integer.MAX_VALUE, 0}, {0, Integer.MAX_VALUE}, {Integer.MAX_VALUE, Integer.MAX_VALUE},
                };
                for (int[] c : cells) {
                    for (boolean on : new boolean[] {true, false}) {
                        String name = "wall(" + c[0] + ", " + c[1] + ", " + on + ")";
                        Check.thrown(name, ArrayIndexOutOfBoundsException.class, () -> plans.wall(c[0], c[1], on));
                    }
                }
                Check.due("no wall is there", plans.count(3), 0);
                Check.due("the last cell", plans.wall(width - 1, height - 1, true), false);
            }
        }
    }

    private static void wallAtAPlace() {
        for (int robots = 1; robots <= 4; robots++) {
            JointPlans plans = Scenes.drawn(robots, "abcd.", "1234.");
            plans.solve(0);
            String before = Scenes.state(plans);
            for (int robot = 0; robot < robots; robot++) {
                int x = robot;
                for (boolean on : new boolean[] {true, false}) {
                    Check.badState("start of " + x + ", " + on, () -> plans.wall(x, 0, on));
                    Check.badState("end of " + x + ", " + on, () -> plans.wall(x, 1, on));
                }
            }
            Check.due("all stays", Scenes.state(plans), before);
            plans.start(0, 4, 0);
            Check.badState("the new start", () -> plans.wall(4, 0, true));
            Check.due("the start that was", plans.wall(0, 0, true), false);
            plans.end(0, 4, 1);
            Check.badState("the new end", () -> plans.wall(4, 1, true));
            Check.due("the end that was", plans.wall(0, 1, true), false);
        }
        JointPlans both = Scenes.drawn(1, "A.");
        Check.badState("start and end at one cell", () -> both.wall(0, 0, true));
        both.start(0, 1, 0);
        Check.badState("the end is there still", () -> both.wall(0, 0, true));
    }

    private static void whetherTheyWere() {
        for (int robots = 0; robots <= 4; robots++) {
            JointPlans plans = new JointPlans(robots);
            Check.due("barred at first", plans.swap(true), true);
            Check.due("barred", plans.swap(false), true);
            Check.due("not barred", plans.swap(false), false);
            plans.grid(3, 3);
            Check.due("not barred behind grid", plans.swap(true), false);
            Check.due("barred again", plans.swap(true), true);
        }
        JointPlans made = Scenes.ways(2, 1, "00>10", "10>00");
        made.swap(false);
        made.solve(0);
        made.swap(true);
        Check.due("a plan stays", Scenes.plan(made), "cost 2, 00 10, 10 00");
    }

    /** Robot 0 stands in the way of robot 1, so that a plan tells whether an order has 1 before 0. */
    private static JointPlans oneInTheWay() {
        return Scenes.drawn(3, "bA2#C", "#.###");
    }

    /** The answers of twelve restarts, one by one. */
    private static String restarts(JointPlans plans) {
        StringBuilder answers = new StringBuilder();
        for (int i = 0; i < 12; i++) {
            answers.append(plans.solve(1)).append(' ');
        }
        return answers.toString();
    }

    private static String restartsBy(long seed) {
        StringBuilder answers = new StringBuilder();
        long x = seed;
        for (int i = 0; i < 12; i++) {
            x = (x * 1103515245L + 12345L) & 0x7fffffffL;
            boolean changed = x / 65536 % 2 == 0;
            x = (x * 1103515245L + 12345L) & 0x7fffffffL;
            long k = x / 65536 % 3;
            // the robot at place 0 goes to the end if k is 0, that at place 1 if k is 1
            boolean before = changed ? k != 0 : k == 0;
            answers.append(before ? 4 : -1).append(' ');
        }
        return answers.toString();
    }

    private static void seedIsThis() {
        for (int seed : new int[] {0, 1, 2, 100, 65536, 1 << 30, Integer.MAX_VALUE - 1, Integer.MAX_VALUE}) {
            JointPlans plans = oneInTheWay();
            plans.seed(seed);
            Check.due("seed " + seed, restarts(plans), restartsBy(seed));
            plans.seed(9);
            plans.seed(seed);
            Check.due("seed " + seed + " again", restarts(plans), restartsBy(seed));
        }
        JointPlans made = Scenes.drawn(1, "a.1");
        made.solve(0);
        made.seed(0);
        Check.due("a plan stays", Scenes.plan(made), "cost 2, 00 10 20");
    }

    private static void seedBelowNone() {
        for (int robots = 0; robots <= 4; robots++) {
            JointPlans plans = new JointPlans(robots);
            for (int seed : new int[] {-1, -2, -65536, Integer.MIN_VALUE + 1, Integer.MIN_VALUE}) {
                Check.badArgument("seed(" + seed + ")", () -> Scenes.seed(plans, seed));
            }
            Check.due("seed(0)", Check.answer(() -> Scenes.seed(plans, 0)), "done");
        }
        JointPlans plans = oneInTheWay();
        Check.badArgument("seed(-1)", () -> Scenes.seed(plans, -1));
        Check.due("the first seed stays", restarts(plans), restartsBy(1));
        plans.seed(77);
        Check.badArgument("seed(-77)", () -> Scenes.seed(plans, -77));
        Check.due("seed 77 stays", restarts(plans), restartsBy(77));
    }
}
