/** Boundary cases of promises 12 to 15: alone, bound, share and count. */
final class EdgesOfBounds {
    private EdgesOfBounds() {
    }

    static void run() {
        Sentences.section("Promise 12: alone");
        Sentences.holds("The moves that a robot alone needs from its start to its end at least;",
            EdgesOfBounds::needs);
        Sentences.holds("-1 if it can't come there.", EdgesOfBounds::canNotCome);
        Sentences.holds("IllegalArgumentException;", EdgesOfBounds::noSuchRobot);
        Sentences.holds("IllegalStateException: it has no start or end.", EdgesOfBounds::noStartOrEnd);

        Sentences.section("Promise 13: bound");
        Sentences.holds("The sum of what all robots alone need;", EdgesOfBounds::sum);
        Sentences.holds("-1 if one can't come to its end.", EdgesOfBounds::oneCanNotCome);
        Sentences.holds("IllegalStateException: a robot is without start or end.", EdgesOfBounds::oneIsWithout);

        Sentences.section("Promise 14: share");
        Sentences.holds("A hundred times bound() divided by the plan's cost", EdgesOfBounds::hundredTimes);
        Sentences.holds("(rests are dropped).", EdgesOfBounds::restsAreDropped);
        Sentences.holds("IllegalStateException: there is no plan, or a robot is without start or end;",
            EdgesOfBounds::shareWithoutPlan);
        Sentences.holds("ArithmeticException (the machine's own): the cost is 0.", EdgesOfBounds::costIsNothing);

        Sentences.section("Promise 15: count");
        Sentences.holds("0 robots, 1 width, 2 height, 3 walls,", EdgesOfBounds::counts);
        Sentences.holds("4 the plan's cost (-1 without a plan);", EdgesOfBounds::costOrNone);
        Sentences.holds("-1 for another what.", EdgesOfBounds::anotherWhat);
    }

    private static void needs() {
        for (int robots = 1; robots <= 4; robots++) {
            JointPlans plans = Scenes.drawn(robots, "A1B2", "C3D4", "....");
            Check.due("one move", plans.alone(0), 1);
            plans.end(0, 0, 0);
            Check.due("its start is its end", plans.alone(0), 0);
            plans.end(0, 3, 2);
            Check.due("others are not in its way", plans.alone(0), 5);
            for (int x = 0; x < 4; x++) {
                plans.end(0, x, 2);
                Check.due("moves to the column " + x, plans.alone(0), x + 2);
            }
        }
        JointPlans snake = Scenes.drawn(1, "a.....", "#####.", "......", ".#####", "......", "#####1");
        Check.due("a long way", snake.alone(0), 20);
        JointPlans round = Scenes.drawn(1, "a#1", ".#.", "...");
        Check.due("round a wall", round.alone(0), 6);
        round.wall(1, 0, false);
        Check.due("the wall is gone", round.alone(0), 2);
        JointPlans between = Scenes.drawn(2, "aB1");
        Check.due("another one is in its way", between.alone(0), 2);
        between.solve(0);
        Check.due("whether there is a plan or not", between.alone(0), 2);
    }

    private static void canNotCome() {
        for (int robots = 1; robots <= 4; robots++) {
            JointPlans plans = Scenes.drawn(robots, "a#1BCD");
            Check.due("a wall between", plans.alone(0), -1);
            plans.wall(1, 0, false);
            Check.due("no wall between", plans.alone(0), 2);
        }
        JointPlans corner = Scenes.drawn(1, "a#", "#1");
        Check.due("not across a corner", corner.alone(0), -1);
        corner.end(0, 0, 0);
        Check.due("it is there, shut in", corner.alone(0), 0);
        JointPlans edge = Scenes.drawn(1, "..#..a", "1.#...");
        Check.due("not from one edge to the other", edge.alone(0), -1);
    }

    private static void noSuchRobot() {
        for (int robots = 0; robots <= 4; robots++) {
            JointPlans plans = Scenes.drawn(robots, "abcd", "1234");
            for (int robot : new int[] {-1, robots, robots + 1, 4, 5, Integer.MIN_VALUE, Integer.MAX_VALUE}) {
                Check.badArgument("alone(" + robot + ") of " + robots, () -> plans.alone(robot));
            }
            plans.grid(2, 2);
            Check.badArgument("no starts and ends either", () -> plans.alone(plans.count(0)));
        }
    }

    private static void noStartOrEnd() {
        for (int robots = 1; robots <= 4; robots++) {
            for (int robot = 0; robot < robots; robot++) {
                int r = robot;
                JointPlans plans = new JointPlans(robots);
                plans.grid(2, 1);
                Check.badState("neither", () -> plans.alone(r));
                plans.start(robot, 0, 0);
                Check.badState("no end", () -> plans.alone(r));
                plans.grid(2, 1);
                plans.end(robot, 0, 0);
                Check.badState("no start", () -> plans.alone(r));
                plans.start(robot, 1, 0);
                Check.due("both, and the others have none", plans.alone(robot), 1);
            }
        }
    }

    private static void sum() {
        Check.due("no robots", new JointPlans(0).bound(), 0);
        for (int robots = 1; robots <= 4; robots++) {
            Check.due("all there", Scenes.drawn(robots, "ABCD").bound(), 0);
            Check.due("one move each", Scenes.drawn(robots, "abcd", "1234").bound(), robots);
            int[] sums = {0, 5, 9, 12, 14};
            JointPlans plans = Scenes.drawn(robots, "a....1", "b...2.", "c..3..", "d.4...");
            Check.due("each its own", plans.bound(), sums[robots]);
        }
        JointPlans across = Scenes.ways(2, 1, "00>10", "10>00");
        Check.due("alone each can", across.bound(), 2);
        Check.due("both can't", across.solve(0), -1);
        Check.due("the bound stays", across.bound(), 2);
    }

    private static void oneCanNotCome() {
        for (int robots = 1; robots <= 4; robots++) {
            for (int lost = 0; lost < robots; lost++) {
                JointPlans plans = Scenes.drawn(robots, "abcd.#", "1234#.");
                Check.due("all can", plans.bound(), robots);
                plans.end(lost, 5, 1);
                Check.due("robot " + lost + " of " + robots + " can't", plans.bound(), -1);
            }
            JointPlans all = Scenes.drawn(robots, "abcd", "####", "1234");
            Check.due("all can't", all.bound(), -1);
        }
    }

    private static void oneIsWithout() {
        for (int robots = 1; robots <= 4; robots++) {
            for (int i = 0; i < 2 * robots; i++) {
                int without = i / 2;
                JointPlans plans = new JointPlans(robots);
                plans.grid(4, 3);
                for (int x = 0; x < 4; x++) {
                    plans.wall(x, 1, true);
                }
                for (int robot = 0; robot < robots; robot++) {
                    if (robot != without || i % 2 == 0) {
                        plans.start(robot, robot, 0);
                    }
                    if (robot != without || i % 2 == 1) {
                        plans.end(robot, robot, 2);
                    }
                }
                Check.badState("robot " + without + " of " + robots + ", the others can't come", plans::bound);
                plans.start(without, without, 0);
                plans.end(without, without, 2);
                Check.due("all have them, but can't come", plans.bound(), -1);
            }
        }
    }

    private static void hundredTimes() {
        for (int robots = 1; robots <= 4; robots++) {
            JointPlans plans = Scenes.drawn(robots, "abcd.", "1234.");
            plans.solve(0);
            Check.due("as good as can be", plans.share(), 100);
            plans.end(0, 4, 1);
            Check.due("the bound of now, the plan of then", plans.share(), 100 * (robots + 4) / robots);
        }
        JointPlans cross = Scenes.drawn(2, "#b#", "a.1", "#2#");
        cross.solve(0);
        Check.due("4 by 5", cross.share(), 80);
        JointPlans aside = Scenes.drawn(3, "aB1#C", "#.###");
        aside.solve(0);
        Check.due("2 by 4", aside.share(), 50);
        aside.end(0, 0, 0);
        Check.due("0 by 4", aside.share(), 0);
        aside.end(0, 2, 0);
        aside.start(1, 1, 1);
        aside.end(1, 1, 1);
        aside.wall(1, 0, true);
        Check.due("the bound is -1", aside.bound(), -1);
        Check.due("-1 by 4", aside.share(), -25);
    }

    private static void restsAreDropped() {
        JointPlans three = Scenes.drawn(1, "a..1");
        three.solve(0);
        three.end(0, 1, 0);
        Check.due("1 by 3", three.share(), 33);
        three.end(0, 2, 0);
        Check.due("2 by 3", three.share(), 66);
        three.wall(1, 0, true);
        Check.due("-1 by 3", three.share(), -33);
        JointPlans long40 = EdgesOfPriorities.longWay(3, "10", "00");
        long40.solve(0);
        Check.due("20 and 21 by 60", long40.share(), 68);
    }

    private static void shareWithoutPlan() {
        Check.badState("no robots, not solved", () -> new JointPlans(0).share());
        for (int robots = 1; robots <= 4; robots++) {
            JointPlans plans = Scenes.drawn(robots, "abcd.#", "1234#.");
            Check.badState("no plan yet", plans::share);
            plans.solve(0);
            Check.due("a plan", plans.share(), 100);
            plans.end(0, 5, 1);
            plans.solve(0);
            Check.badState("no plan any more", plans::share);
            plans.grid(6, 2);
            Check.badState("behind grid, without starts and ends", plans::share);
            JointPlans there = Scenes.drawn(robots, "ABCD");
            Check.badState("no plan at cost 0 yet", there::share);
        }
    }

    private static void costIsNothing() {
        for (int robots = 0; robots <= 4; robots++) {
            JointPlans plans = Scenes.drawn(robots, "ABCD", "....");
            plans.solve(0);
            Check.thrown(robots + " robots", ArithmeticException.class, plans::share);
            Check.due("the plan stays", plans.count(4), 0);
            if (robots > 0) {
                plans.end(0, 0, 1);
                Check.thrown("the bound is 1, the cost 0", ArithmeticException.class, plans::share);
                plans.solve(0);
                Check.due("the cost is 1", plans.share(), 100);
            }
        }
    }

    private static void counts() {
        for (int robots = 0; robots <= 4; robots++) {
            JointPlans plans = new JointPlans(robots);
            counted(plans, robots, 1, 1, 0);
            plans.wall(0, 0, true);
            counted(plans, robots, 1, 1, 1);
            plans.grid(6, 1);
            counted(plans, robots, 6, 1, 0);
            plans.grid(1, 6);
            counted(plans, robots, 1, 6, 0);
            plans.grid(6, 6);
            for (int i = 0; i < 36; i++) {
                plans.wall(i % 6, i / 6, true);
                plans.wall(i % 6, i / 6, true);
            }
            counted(plans, robots, 6, 6, 36);
            plans.wall(5, 5, false);
            plans.wall(5, 5, false);
            counted(plans, robots, 6, 6, 35);
        }
    }

    private static void counted(JointPlans plans, int robots, int width, int height, int walls) {
        Check.due("robots", plans.count(0), robots);
        Check.due("width", plans.count(1), width);
        Check.due("height", plans.count(2), height);
        Check.due("walls", plans.count(3), walls);
    }

    private static void costOrNone() {
        for (int robots = 0; robots <= 4; robots++) {
            JointPlans plans = Scenes.drawn(robots, "abcd.#", "1234#.");
            Check.due("no plan yet", plans.count(4), -1);
            plans.solve(0);
            Check.due("its cost", plans.count(4), robots);
            if (robots > 0) {
                plans.end(0, 5, 1);
                Check.due("the plan stays", plans.count(4), robots);
                plans.solve(0);
                Check.due("no plan any more", plans.count(4), -1);
            }
            plans.grid(4, 1);
            Check.due("behind grid", plans.count(4), -1);
            JointPlans there = Scenes.drawn(robots, "ABCD");
            there.solve(0);
            Check.due("a plan at cost 0", there.count(4), 0);
        }
    }

    private static void anotherWhat() {
        for (int robots = 0; robots <= 4; robots++) {
            JointPlans plans = Scenes.drawn(robots, "abcd", "1234");
            plans.solve(0);
            for (int what : new int[] {-1, -2, 5, 6, 256, Integer.MIN_VALUE, Integer.MAX_VALUE}) {
                Check.due("count(" + what + ")", plans.count(what), -1);
            }
        }
    }
}
