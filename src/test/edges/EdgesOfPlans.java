/** Boundary cases of promises 8 to 11: solve, exact, at and last. */
final class EdgesOfPlans {
    private static final int[] WRONG_RESTARTS = {-1, 6, 7, Integer.MIN_VALUE, Integer.MAX_VALUE};

    private EdgesOfPlans() {
    }

    static void run() {
        Sentences.section("Promise 8: solve");
        Sentences.holds("A plan is made, with so many restarts (0 .. 5;", EdgesOfPlans::soManyRestarts);
        Sentences.holds("jointly they are nothing): its cost;", EdgesOfPlans::jointlyNothing);
        Sentences.holds("-1, and there is no plan, if there is none.", EdgesOfPlans::thereIsNone);
        Sentences.holds("IllegalArgumentException;", EdgesOfPlans::wrongRestarts);
        Sentences.holds("IllegalStateException: a robot is without start or end.", EdgesOfPlans::withoutStartOrEnd);

        Sentences.section("Promise 9: exact");
        Sentences.holds("Whether there is a plan that was made jointly.", EdgesOfPlans::madeJointly);

        Sentences.section("Promise 10: at");
        Sentences.holds("Where a robot is by the plan after t steps (t from 0 on;", EdgesOfPlans::afterSteps);
        Sentences.holds("behind its last step it is at its end):", EdgesOfPlans::behindTheLastStep);
        Sentences.holds("its x (axis 0) or y (1).", EdgesOfPlans::axes);
        Sentences.holds("IllegalArgumentException;", EdgesOfPlans::wrongAt);
        Sentences.holds("IllegalStateException: there is no plan.", EdgesOfPlans::atWithoutPlan);

        Sentences.section("Promise 11: last");
        Sentences.holds("How many steps the plan has: behind them all robots stay at their ends.",
            EdgesOfPlans::steps);
        Sentences.holds("IllegalStateException: there is no plan.", EdgesOfPlans::lastWithoutPlan);
    }

    private static void soManyRestarts() {
        for (int robots = 0; robots <= 4; robots++) {
            for (int restarts = 0; restarts <= 5; restarts++) {
                JointPlans plans = Scenes.drawn(robots, "abcd", "1234");
                Check.due(robots + " robots, solve(" + restarts + ")", plans.solve(restarts), robots);
                Check.due("the cost told again", plans.count(4), robots);
            }
        }
        // robot 0 stays in the way of robot 1, unless an order has robot 1 before it
        for (int restarts = 0; restarts <= 5; restarts++) {
            JointPlans plans = Scenes.drawn(3, "bA2#C", "#.###");
            plans.seed(seedOfFifth());
            Check.due("solve(" + restarts + ")", plans.solve(restarts), restarts == 5 ? 4 : -1);
        }
        JointPlans again = Scenes.drawn(2, "a.1", "b.2");
        Check.due("a plan", again.solve(0), 4);
        again.end(0, 1, 0);
        Check.due("another one instead", again.solve(0), 3);
        Check.due("its path", Scenes.path(again, 0), "00 10 10");
    }

    /** The least seed by which robot 1 comes before robot 0 in the fifth order of three robots, not before. */
    private static int seedOfFifth() {
        for (int seed = 0; seed < 1000; seed++) {
            long x = seed;
            int first = 0;
            for (int n = 1; n <= 5 && first == 0; n++) {
                x = (x * 1103515245L + 12345L) & 0x7fffffffL;
                boolean changed = x / 65536 % 2 == 0;
                x = (x * 1103515245L + 12345L) & 0x7fffffffL;
                boolean last = x / 65536 % 3 == 0;
                first = changed != last ? n : 0;
            }
            if (first == 5) {
                return seed;
            }
        }
        return -1;
    }

    private static void jointlyNothing() {
        String[][] drawings = {{"..", ".."}, {"a.1"}, {"#b#", "a.1", "#2#"}, {"aB1", "#.#"}, {"A.B"}};
        int[] robots = {0, 1, 2, 2, 2};
        for (int i = 0; i < drawings.length; i++) {
            JointPlans first = Scenes.drawn(robots[i], drawings[i]);
            int cost = first.solve(0);
            for (int restarts = 1; restarts <= 5; restarts++) {
                JointPlans plans = Scenes.drawn(robots[i], drawings[i]);
                plans.seed(restarts);
                Check.due("cost", plans.solve(restarts), cost);
                Check.due("plan", Scenes.plan(plans), Scenes.plan(first));
                Check.due("exact", plans.exact(), true);
            }
        }
    }

    private static void thereIsNone() {
        for (int robots = 1; robots <= 4; robots++) {
            for (int lost = 0; lost < robots; lost++) {
                JointPlans plans = Scenes.drawn(robots, "abcd.#", "1234#.");
                Check.due("a plan", plans.solve(5), robots);
                plans.end(lost, 5, 1);
                Check.due("robot " + lost + " can't come there", plans.solve(5), -1);
                Check.due("no cost", plans.count(4), -1);
                Check.due("not exact", plans.exact(), false);
                Check.badState("no last step", plans::last);
                Check.badState("no share", plans::share);
                Check.badState("no cells", () -> plans.at(0, 0, 0));
                Check.due("none again", plans.solve(0), -1);
                plans.end(lost, lost, 1);
                Check.due("a plan again", plans.solve(0), robots);
                Check.due("last", plans.last(), 1);
            }
        }
        Check.due("each can alone, but not both", Scenes.ways(2, 1, "00>10", "10>00").solve(5), -1);
        Check.due("not by priorities", Scenes.ways(3, 1, "00>20", "10>10", "20>00").solve(5), -1);
    }

    private static void wrongRestarts() {
        for (int robots = 0; robots <= 4; robots++) {
            JointPlans plans = Scenes.drawn(robots, "abcd", "1234");
            String before = Scenes.state(plans);
            for (int restarts : WRONG_RESTARTS) {
                Check.badArgument(robots + " robots, solve(" + restarts + ")", () -> plans.solve(restarts));
            }
            Check.due("all stays", Scenes.state(plans), before);
            plans.solve(5);
            String made = Scenes.state(plans);
            for (int restarts : WRONG_RESTARTS) {
                Check.badArgument("with a plan, solve(" + restarts + ")", () -> plans.solve(restarts));
            }
            Check.due("the plan stays", Scenes.state(plans), made);
            if (robots > 0) {
                plans.grid(2, 2);
                Check.badArgument("without starts and ends too", () -> plans.solve(6));
            }
        }
        JointPlans seeded = Scenes.drawn(3, "bA2#C", "#.###");
        seeded.seed(1);
        Check.badArgument("too many", () -> seeded.solve(6));
        Check.due("the seed stays: order 1, 2, 0", seeded.solve(1), 4);
    }

    private static void withoutStartOrEnd() {
        Check.due("no robots need none", new JointPlans(0).solve(0), 0);
        for (int robots = 1; robots <= 4; robots++) {
            for (int i = 0; i < 3 * robots; i++) {
                int without = i / 3;
                JointPlans plans = new JointPlans(robots);
                plans.grid(4, 2);
                for (int robot = 0; robot < robots; robot++) {
                    if (robot != without || i % 3 == 1) {
                        plans.start(robot, robot, 0);
                    }
                    if (robot != without || i % 3 == 2) {
                        plans.end(robot, robot, 1);
                    }
                }
                String name = "robot " + without + " of " + robots + ": ";
                Check.badState(name + "solve(0)", () -> plans.solve(0));
                Check.badState(name + "solve(5)", () -> plans.solve(5));
                Check.due(name + "no plan", plans.count(4), -1);
                plans.start(without, without, 0);
                plans.end(without, without, 1);
                Check.due(name + "all have them", plans.solve(0), robots);
            }
        }
        JointPlans seeded = Scenes.drawn(3, "bA2#c", "#.###");
        Check.badState("no end", () -> seeded.solve(5));
        seeded.end(2, 4, 0);
        Check.due("the seed stays: order 1, 2, 0", seeded.solve(1), 4);
    }

    private static void madeJointly() {
        for (int robots = 0; robots <= 4; robots++) {
            JointPlans plans = Scenes.drawn(robots, "abcd.#", "1234#.");
            Check.due("no plan yet", plans.exact(), false);
            plans.solve(0);
            Check.due(robots + " robots", plans.exact(), robots <= 2);
            plans.swap(false);
            plans.seed(5);
            plans.wall(4, 0, true);
            Check.due("the plan stays", plans.exact(), robots <= 2);
            if (robots > 0) {
                plans.end(0, 5, 1);
                Check.due("the plan stays", plans.exact(), robots <= 2);
                plans.solve(0);
                Check.due("no plan any more", plans.exact(), false);
            }
            plans.grid(1, 1);
            Check.due("behind grid", plans.exact(), false);
        }
    }

    private static void afterSteps() {
        JointPlans two = Scenes.drawn(2, "a....1", "......", "b.2...");
        two.solve(0);
        for (int t = 0; t <= 5; t++) {
            Check.due("x of robot 0 after " + t, two.at(0, t, 0), t);
            Check.due("y of robot 0 after " + t, two.at(0, t, 1), 0);
            Check.due("x of robot 1 after " + t, two.at(1, t, 0), Math.min(2, t));
            Check.due("y of robot 1 after " + t, two.at(1, t, 1), 2);
        }
        JointPlans four = Scenes.drawn(4, "abcd..", "......", "..1234");
        four.solve(0);
        for (int robot = 0; robot < 4; robot++) {
            int r = robot;
            Check.due("x at its start", four.at(robot, 0, 0), robot);
            Check.due("y at its start", four.at(robot, 0, 1), 0);
            Check.badArgument("t is -1", () -> four.at(r, -1, 0));
            Check.badArgument("t is the least", () -> four.at(r, Integer.MIN_VALUE, 1));
        }
    }

    private static void behindTheLastStep() {
        for (int robots = 1; robots <= 4; robots++) {
            JointPlans plans = Scenes.drawn(robots, "abcd..", "......", "..1234");
            plans.solve(0);
            int last = plans.last();
            int[] times = {last, last + 1, 39, 40, 41, 42, 1295, 1296, 1 << 29, 1 << 30, Integer.MAX_VALUE};
            for (int robot = 0; robot < robots; robot++) {
                for (int t : times) {
                    Check.due("x of " + robot + " after " + t, plans.at(robot, t, 0), robot + 2);
                    Check.due("y of " + robot + " after " + t, plans.at(robot, t, 1), 2);
                }
            }
        }
        JointPlans none = Scenes.drawn(2, "A.", ".B");
        none.solve(0);
        Check.due("a plan without steps", none.at(1, Integer.MAX_VALUE, 0) + none.at(1, 1, 1), 2);
        JointPlans shorter = Scenes.drawn(1, "a....1");
        shorter.solve(0);
        shorter.end(0, 1, 0);
        Check.due("behind the longer plan, which stays", shorter.at(0, 6, 0), 5);
        shorter.solve(0);
        Check.due("behind the shorter plan", shorter.at(0, 4, 0), 1);
        JointPlans earlier = Scenes.drawn(3, "a....1", "b2....", "c.3...");
        earlier.solve(0);
        Check.due("one that came earlier stays at its end", Scenes.path(earlier, 1), "01 11 11 11 11 11");
    }

    private static void axes() {
        for (int robots = 1; robots <= 4; robots++) {
            JointPlans plans = new JointPlans(robots);
            plans.grid(6, 5);
            for (int robot = 0; robot < robots; robot++) {
                plans.start(robot, 5 - robot, robot);
                plans.end(robot, 5 - robot, robot);
            }
            plans.solve(0);
            for (int robot = 0; robot < robots; robot++) {
                int r = robot;
                Check.due("axis 0", plans.at(robot, 0, 0), 5 - robot);
                Check.due("axis 1", plans.at(robot, 0, 1), robot);
                for (int axis : new int[] {-1, 2, 3, Integer.MIN_VALUE, Integer.MAX_VALUE}) {
                    Check.badArgument("axis " + axis, () -> plans.at(r, 0, axis));
                }
            }
        }
    }

    private static void wrongAt() {
        for (int robots = 0; robots <= 4; robots++) {
            JointPlans plans = Scenes.drawn(robots, "abcd", "1234");
            int[][] wrong = {
                {-1, 0, 0}, {robots, 0, 0}, {4, 0, 0}, {Integer.MIN_VALUE, 0, 0}, {Integer.MAX_VALUE, 0, 0},
                {0, -1, 0}, {0, Integer.MIN_VALUE, 0}, {0, 0, -1}, {0, 0, 2}, {0, 0, Integer.MIN_VALUE},
                {0, 0, Integer.MAX_VALUE}, {-1, -1, -1}, {robots, 99, 2},
            };
            for (int made = 0; made < 2; made++) {
                for (int[] a : wrong) {
                    String name = robots + " robots, " + (made == 0 ? "no" : "a") + " plan: at";
                    Check.badArgument(name + "(" + a[0] + ", " + a[1] + ", " + a[2] + ")",
                        () -> plans.at(a[0], a[1], a[2]));
                }
                plans.solve(0);
            }
            Check.due("the plan stays", plans.count(4), robots);
        }
    }

    private static void atWithoutPlan() {
        for (int robots = 1; robots <= 4; robots++) {
            JointPlans plans = Scenes.drawn(robots, "abcd.#", "1234#.");
            for (int robot = 0; robot < robots; robot++) {
                int r = robot;
                Check.badState("no plan yet", () -> plans.at(r, 0, 0));
                Check.badState("no plan yet, any t", () -> plans.at(r, Integer.MAX_VALUE, 1));
            }
            plans.solve(0);
            Check.due("a plan", plans.at(0, 1, 1), 1);
            plans.end(0, 5, 1);
            plans.solve(0);
            Check.badState("no plan any more", () -> plans.at(0, 0, 0));
            plans.grid(6, 2);
            Check.badState("behind grid", () -> plans.at(0, 0, 0));
        }
    }

    /** Before the last step some robot is not at its end yet, and behind it all stay. */
    private static void steps() {
        for (int robots = 0; robots <= 4; robots++) {
            JointPlans there = Scenes.drawn(robots, "ABCD");
            there.solve(0);
            Check.due("all there: no step", there.last(), 0);
            JointPlans one = Scenes.drawn(robots, "aBCD", "1...");
            one.solve(0);
            Check.due("one has one move", one.last(), robots == 0 ? 0 : 1);
        }
        lasts(3, 2, "aB1#C", "#.###");
        lasts(3, 5, "a....1", "b2....", "c.3...");
        lasts(3, 5, "a1....", "b.2...", "c....3");
        lasts(4, 5, "a1....", "b.2...", "c....3", "d4....");
        lasts(2, 2, "aB1", "#.#");
        JointPlans forty = EdgesOfPriorities.longWay(3, "10", "00");
        forty.solve(0);
        Check.due("as many as there can be by priorities", forty.last(), 40);
        JointPlans more = EdgesOfPriorities.longWay(2, "00", "00");
        more.solve(0);
        Check.due("more than 40 jointly", more.last(), 41);
    }

    private static void lasts(int robots, int last, String... rows) {
        JointPlans plans = Scenes.drawn(robots, rows);
        plans.solve(0);
        Check.due(String.join("/", rows) + ": last", plans.last(), last);
        boolean all = true;
        for (int robot = 0; robot < robots; robot++) {
            for (int axis = 0; axis < 2; axis++) {
                all &= plans.at(robot, last - 1, axis) == plans.at(robot, last, axis);
            }
        }
        Check.due("the last step is more than to stay", all, false);
    }

    private static void lastWithoutPlan() {
        Check.badState("no robots, not solved", () -> new JointPlans(0).last());
        for (int robots = 1; robots <= 4; robots++) {
            JointPlans plans = Scenes.drawn(robots, "abcd.#", "1234#.");
            Check.badState("no plan yet", plans::last);
            plans.solve(0);
            Check.due("a plan", plans.last(), 1);
            plans.end(0, 5, 1);
            plans.solve(0);
            Check.badState("no plan any more", plans::last);
            plans.end(0, 0, 1);
            plans.solve(0);
            plans.grid(6, 2);
            Check.badState("behind grid", plans::last);
        }
    }
}
