/** Promises 12 to 15: alone, bound, share and count. */
public final class BoundsTest {
    public static void main(String[] args) {
        aloneAndBound();
        missingPlaces();
        wrongRobots();
        shares();
        sharesByNewPlaces();
        shareOfCostNothing();
        counts();
        Check.finish();
    }

    private static void aloneAndBound() {
        JointPlans plans = Scenes.drawn(4, "a..1", "b#2.", "c#.3", "d.4.");
        Check.due("alone(0)", plans.alone(0), 3);
        Check.due("alone(1)", plans.alone(1), 4);
        Check.due("alone(2)", plans.alone(2), 5);
        Check.due("alone(3)", plans.alone(3), 2);
        Check.due("bound", plans.bound(), 14);
        plans.wall(1, 3, true);
        Check.due("alone(3) round the wall", plans.alone(3), 8);
        Check.due("bound", plans.bound(), 3 + 4 + 7 + 8);
        plans.wall(1, 0, true);
        for (int robot = 0; robot < 4; robot++) {
            Check.due("no way", plans.alone(robot), -1);
        }
        Check.due("no bound", plans.bound(), -1);
        plans.end(0, 0, 0);
        Check.due("already there", plans.alone(0), 0);
        Check.due("one can't still", plans.bound(), -1);
        JointPlans inTheWay = Scenes.drawn(2, "ab1");
        inTheWay.end(1, 1, 0);
        Check.due("alone means without the others", inTheWay.alone(0), 2);
        Check.due("bound", inTheWay.bound(), 2);
        Check.due("no robots", new JointPlans(0).bound(), 0);
    }

    private static void missingPlaces() {
        for (int robots = 1; robots <= 4; robots++) {
            JointPlans plans = new JointPlans(robots);
            int lastRobot = robots - 1;
            plans.grid(6, 6);
            for (int robot = 0; robot < robots; robot++) {
                plans.start(robot, robot, 0);
                if (robot < lastRobot) {
                    plans.end(robot, robot, 3);
                    Check.due("alone", plans.alone(robot), 3);
                }
            }
            Check.thrown("no end", IllegalStateException.class, () -> plans.alone(lastRobot));
            Check.thrown("bound", IllegalStateException.class, plans::bound);
            plans.end(lastRobot, lastRobot, 3);
            Check.due("bound", plans.bound(), 3 * robots);
            plans.grid(6, 6);
            plans.end(0, 0, 0);
            Check.thrown("no start", IllegalStateException.class, () -> plans.alone(0));
            Check.thrown("bound", IllegalStateException.class, plans::bound);
        }
    }

    private static void wrongRobots() {
        for (int robots = 0; robots <= 4; robots++) {
            JointPlans plans = new JointPlans(robots);
            for (int robot : new int[] {-1, robots, 4, 5, Integer.MIN_VALUE, Integer.MAX_VALUE}) {
                Check.thrown("alone(" + robot + ")", IllegalArgumentException.class, () -> plans.alone(robot));
            }
        }
    }

    private static void shares() {
        JointPlans plans = Scenes.drawn(2, "#b#", "a.1", "#2#");
        Check.thrown("no plan", IllegalStateException.class, plans::share);
        plans.solve(0);
        Check.due("4 of 5", plans.share(), 80);
        JointPlans all = Scenes.drawn(3, "abc", "123");
        all.solve(0);
        Check.due("3 of 3", all.share(), 100);
        JointPlans rest = Scenes.drawn(1, "a..1");
        rest.solve(0);
        rest.end(0, 2, 0);
        Check.due("2 of 3, the rest is dropped", rest.share(), 66);
        rest.end(0, 0, 0);
        Check.due("0 of 3", rest.share(), 0);
        JointPlans lost = Scenes.drawn(1, "a.1");
        lost.solve(0);
        lost.wall(1, 0, true);
        Check.due("no plan any more", lost.solve(0), -1);
        Check.thrown("share", IllegalStateException.class, lost::share);
    }

    /** The plan stays while the bound is that of the present places and walls. */
    private static void sharesByNewPlaces() {
        JointPlans plans = Scenes.drawn(1, "a.1...", "......");
        plans.solve(0);
        plans.end(0, 5, 1);
        Check.due("6 of 2", plans.share(), 300);
        plans.wall(4, 1, true);
        plans.wall(5, 0, true);
        Check.due("bound", plans.bound(), -1);
        Check.due("-100 by 2", plans.share(), -50);
        JointPlans three = Scenes.drawn(1, "a..1.", ".....");
        three.solve(0);
        three.wall(1, 0, true);
        three.wall(0, 1, true);
        Check.due("-100 by 3, the rest is dropped", three.share(), -33);
    }

    private static void shareOfCostNothing() {
        for (int robots = 0; robots <= 4; robots++) {
            JointPlans plans = new JointPlans(robots);
            plans.grid(4, 2);
            for (int robot = 0; robot < robots; robot++) {
                plans.start(robot, robot, 0);
                plans.end(robot, robot, 0);
            }
            Check.thrown("no plan", IllegalStateException.class, plans::share);
            Check.due("cost", plans.solve(0), 0);
            Check.thrown("the cost is 0", ArithmeticException.class, plans::share);
            if (robots > 0) {
                plans.end(0, 0, 1);
                Check.thrown("the cost is 0 still", ArithmeticException.class, plans::share);
            }
        }
    }

    private static void counts() {
        JointPlans plans = Scenes.drawn(3, "abc#", "123.", "#..#");
        int[] want = {3, 4, 3, 3, -1};
        for (int what = 0; what < 5; what++) {
            Check.due("count(" + what + ")", plans.count(what), want[what]);
        }
        for (int what : new int[] {-1, 5, 6, Integer.MIN_VALUE, Integer.MAX_VALUE}) {
            Check.due("count(" + what + ")", plans.count(what), -1);
        }
        plans.solve(0);
        Check.due("the cost", plans.count(4), 3);
        plans.grid(5, 2);
        int[] then = {3, 5, 2, 0, -1};
        for (int what = 0; what < 5; what++) {
            Check.due("behind grid: count(" + what + ")", plans.count(what), then[what]);
        }
    }
}
