/** Promises 4 and 5: start and end, which are alike. */
public final class StartAndEndTest {
    private final boolean start;

    private StartAndEndTest(boolean start) {
        this.start = start;
    }

    public static void main(String[] args) {
        for (boolean start : new boolean[] {true, false}) {
            StartAndEndTest test = new StartAndEndTest(start);
            test.placesAreTaken();
            test.wrongArguments();
            test.wallIsThere();
            test.planStays();
        }
        startsAndEndsMayMeet();
        Check.finish();
    }

    private boolean place(JointPlans plans, int robot, int x, int y) {
        return start ? plans.start(robot, x, y) : plans.end(robot, x, y);
    }

    private void other(JointPlans plans, int robot, int x, int y) {
        if (start) {
            plans.end(robot, x, y);
        } else {
            plans.start(robot, x, y);
        }
    }

    private void placesAreTaken() {
        for (int robots = 2; robots <= 4; robots++) {
            JointPlans plans = new JointPlans(robots);
            int lastRobot = robots - 1;
            plans.grid(6, 1);
            other(plans, 0, 0, 0);
            other(plans, lastRobot, 1, 0);
            Check.due("the first place", place(plans, 0, 1, 0), true);
            Check.due("alone", plans.alone(0), 1);
            Check.due("the same again", place(plans, 0, 1, 0), true);
            Check.due("taken by robot 0", place(plans, lastRobot, 1, 0), false);
            Check.thrown("still without one", IllegalStateException.class, () -> plans.alone(lastRobot));
            Check.due("another place", place(plans, lastRobot, 5, 0), true);
            Check.due("taken by the last robot", place(plans, 0, 5, 0), false);
            Check.due("the earlier one stays", plans.alone(0), 1);
            Check.due("instead of the earlier one", place(plans, 0, 3, 0), true);
            Check.due("alone now", plans.alone(0), 3);
            Check.due("the earlier one is free", place(plans, lastRobot, 1, 0), true);
        }
    }

    private void wrongArguments() {
        JointPlans plans = new JointPlans(2);
        plans.grid(3, 2);
        plans.wall(0, 0, true);
        int[][] wrong = {
            {-1, 1, 1}, {2, 1, 1}, {4, 1, 1}, {Integer.MIN_VALUE, 1, 1}, {Integer.MAX_VALUE, 1, 1},
            {0, -1, 0}, {0, 3, 0}, {0, 0, -1}, {0, 0, 2}, {1, 5, 0}, {1, 6, 0}, {1, -6, 1}, {1, Integer.MAX_VALUE, 1},
            {0, 0, Integer.MIN_VALUE}, {2, 0, 0}, {-1, 0, 0}, {7, 9, 9},
        };
        for (int[] a : wrong) {
            String name = "(" + a[0] + ", " + a[1] + ", " + a[2] + ")";
            Check.thrown(name, IllegalArgumentException.class, () -> place(plans, a[0], a[1], a[2]));
        }
    }

    private void wallIsThere() {
        JointPlans plans = new JointPlans(1);
        plans.grid(3, 2);
        plans.wall(2, 1, true);
        Check.thrown("on a wall", IllegalStateException.class, () -> place(plans, 0, 2, 1));
        other(plans, 0, 0, 0);
        Check.thrown("nothing was set", IllegalStateException.class, () -> plans.alone(0));
        place(plans, 0, 1, 0);
        Check.thrown("on a wall", IllegalStateException.class, () -> place(plans, 0, 2, 1));
        Check.due("the earlier one stays", plans.alone(0), 1);
        plans.wall(2, 1, false);
        Check.due("the wall is gone", place(plans, 0, 2, 1), true);
        Check.due("alone", plans.alone(0), 3);
    }

    private void planStays() {
        for (int robots = 1; robots <= 4; robots++) {
            JointPlans plans = Scenes.drawn(robots, "abcd.", "1234.");
            plans.solve(0);
            String path = Scenes.path(plans, 0);
            place(plans, 0, 4, 0);
            Check.due("cost", plans.count(4), robots);
            Check.due("last", plans.last(), 1);
            Check.due("path", Scenes.path(plans, 0), path);
            Check.due("x behind the plan", plans.at(0, 99, 0), 0);
            Check.due("y behind the plan", plans.at(0, 99, 1), 1);
            Check.due("exact", plans.exact(), robots <= 2);
        }
    }

    private static void startsAndEndsMayMeet() {
        JointPlans plans = new JointPlans(2);
        plans.grid(2, 2);
        Check.due("start of 0", plans.start(0, 0, 0), true);
        Check.due("end of 0 at its start", plans.end(0, 0, 0), true);
        Check.due("start of 1", plans.start(1, 1, 0), true);
        Check.due("end of 0 at the start of 1", plans.end(0, 1, 0), true);
        Check.due("end of 1 at the start of 0", plans.end(1, 0, 0), true);
    }
}
