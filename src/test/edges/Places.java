/** Boundary cases of start and end, which are alike. */
final class Places {
    private final boolean start;

    Places(boolean start) {
        this.start = start;
    }

    private boolean place(JointPlans plans, int robot, int x, int y) {
        return start ? plans.start(robot, x, y) : plans.end(robot, x, y);
    }

    private boolean placeOther(JointPlans plans, int robot, int x, int y) {
        return start ? plans.end(robot, x, y) : plans.start(robot, x, y);
    }

    void insteadOfAnEarlierOne() {
        for (int robots = 1; robots <= 4; robots++) {
            for (int robot = 0; robot < robots; robot++) {
                moveOf(robots, robot);
            }
        }
    }

    private void moveOf(int robots, int robot) {
        JointPlans plans = Scenes.drawn(robots, "abcd.", "1234.");
        plans.solve(0);
        String plan = Scenes.plan(plans);
        String name = "robot " + robot + " of " + robots + ": ";
        int y = start ? 0 : 1;
        Check.due(name + "the same place again", place(plans, robot, robot, y), true);
        Check.due(name + "the same way", plans.alone(robot), 1);
        Check.due(name + "where its other place is", place(plans, robot, robot, 1 - y), true);
        Check.due(name + "no way", plans.alone(robot), 0);
        Check.due(name + "the last cell of the row", place(plans, robot, 4, y), true);
        Check.due(name + "the new way", plans.alone(robot), 5 - robot);
        Check.due(name + "a plan stays", Scenes.plan(plans), plan);
        Check.due(name + "behind the plan", plans.at(robot, 99, 0), robot);
        Check.due(name + "behind the plan", plans.at(robot, 99, 1), 1);
        Check.due(name + "exact stays", plans.exact(), robots <= 2);
        for (int other = 0; other < robots; other++) {
            if (other != robot) {
                Check.due(name + "others stay", plans.alone(other), 1);
            }
        }
        Check.due(name + "the earlier place is free for a wall", plans.wall(robot, y, true), false);
        Check.badState(name + "the new one is not", () -> plans.wall(4, y, true));
    }

    void takenByAnother() {
        for (int robots = 2; robots <= 4; robots++) {
            for (int i = 0; i < robots * robots; i++) {
                int one = i / robots;
                int other = i % robots;
                if (one != other) {
                    taken(robots, one, other);
                }
            }
        }
        JointPlans two = new JointPlans(2);
        Check.due("the only cell", place(two, 1, 0, 0), true);
        Check.due("it is taken", place(two, 0, 0, 0), false);
        Check.due("the other places are free", placeOther(two, 0, 0, 0), true);
    }

    private void taken(int robots, int one, int other) {
        JointPlans plans = new JointPlans(robots);
        String name = one + " and " + other + " of " + robots + ": ";
        plans.grid(6, 6);
        placeOther(plans, one, 0, 5);
        placeOther(plans, other, 5, 5);
        place(plans, one, 0, 0);
        Check.due(name + "taken", place(plans, other, 0, 0), false);
        Check.badState(name + "still without one", () -> plans.alone(other));
        Check.badState(name + "nothing to solve", () -> plans.solve(0));
        Check.due(name + "a free place", place(plans, other, 5, 4), true);
        Check.due(name + "taken again", place(plans, other, 0, 0), false);
        Check.due(name + "it stays", plans.alone(other), 1);
        Check.due(name + "the one that is there stays", plans.alone(one), 5);
        Check.badState(name + "its place is no place for a wall", () -> plans.wall(5, 4, true));
        Check.due(name + "the other way round", place(plans, one, 5, 4), false);
        Check.due(name + "the one that is there stays", plans.alone(one), 5);
        Check.due(name + "where the other has its other place", place(plans, one, 5, 5), true);
        Check.due(name + "the place that was left", place(plans, other, 0, 0), true);
    }

    void noSuchRobotOrCell() {
        for (int robots = 0; robots <= 4; robots++) {
            JointPlans plans = Scenes.drawn(robots, "abcd#", "1234.");
            plans.solve(0);
            String before = Scenes.state(plans);
            int[][] wrong = {
                {-1, 4, 1}, {robots, 4, 1}, {4, 4, 1}, {5, 4, 1}, {Integer.MIN_VALUE, 4, 1}, {Integer.MAX_VALUE, 4, 1},
                {0, -1, 1}, {0, 5, 1}, {0, 6, 0}, {0, 4, -1}, {0, 4, 2}, {0, 0, 6}, {0, -1, -1}, {0, 5, 2},
                {0, Integer.MIN_VALUE, 0}, {0, Integer.MAX_VALUE, 0}, {0, 0, Integer.MIN_VALUE},
                {0, 0, Integer.MAX_VALUE}, {-1, -1, -1}, {robots, 5, 2},
                // no such robot, where a wall or another one is
                {-1, 4, 0}, {robots, 4, 0}, {-1, 0, 0}, {robots, 0, 0}, {-1, 0, 1}, {robots, 0, 1},
            };
            for (int[] a : wrong) {
                String name = robots + " robots: (" + a[0] + ", " + a[1] + ", " + a[2] + ")";
                Check.badArgument(name, () -> place(plans, a[0], a[1], a[2]));
            }
            Check.due("all stays", Scenes.state(plans), before);
        }
    }

    void wallIsThere() {
        for (int robots = 1; robots <= 4; robots++) {
            JointPlans plans = Scenes.drawn(robots, "abcd#", "1234#");
            plans.solve(0);
            String before = Scenes.state(plans);
            for (int robot = 0; robot < robots; robot++) {
                int r = robot;
                Check.badState("robot " + r + " at a wall", () -> place(plans, r, 4, 0));
                Check.badState("robot " + r + " at another wall", () -> place(plans, r, 4, 1));
            }
            Check.due("all stays", Scenes.state(plans), before);
            plans.wall(4, 0, false);
            Check.due("the wall is gone", place(plans, 0, 4, 0), true);
        }
        JointPlans one = new JointPlans(1);
        one.wall(0, 0, true);
        Check.badState("a wall at the only cell", () -> place(one, 0, 0, 0));
        one.wall(0, 0, false);
        placeOther(one, 0, 0, 0);
        Check.badState("nothing was placed", () -> one.alone(0));
    }
}
