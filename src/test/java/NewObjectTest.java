/** Promise 1: a new object. */
public final class NewObjectTest {
    public static void main(String[] args) {
        int[][] asked = {
            {Integer.MIN_VALUE, 0}, {-1, 0}, {0, 0}, {1, 1}, {2, 2}, {3, 3}, {4, 4}, {5, 4}, {Integer.MAX_VALUE, 4},
        };
        for (int[] pair : asked) {
            looksNew(pair[0], pair[1]);
        }
        seedIsOneAtFirst();
        Check.finish();
    }

    private static void looksNew(int asked, int robots) {
        JointPlans plans = new JointPlans(asked);
        String name = "new JointPlans(" + asked + "): ";
        Check.due(name + "robots", plans.count(0), robots);
        Check.due(name + "width", plans.count(1), 1);
        Check.due(name + "height", plans.count(2), 1);
        Check.due(name + "walls", plans.count(3), 0);
        Check.due(name + "cost", plans.count(4), -1);
        Check.due(name + "exact", plans.exact(), false);
        Check.thrown(name + "last", IllegalStateException.class, plans::last);
        Check.thrown(name + "share", IllegalStateException.class, plans::share);
        Check.thrown(name + "start of one too many", IllegalArgumentException.class, () -> plans.start(robots, 0, 0));
        Check.thrown(name + "alone of one too many", IllegalArgumentException.class, () -> plans.alone(robots));
        for (int robot = 0; robot < robots; robot++) {
            int r = robot;
            Check.thrown(name + "alone", IllegalStateException.class, () -> plans.alone(r));
            Check.thrown(name + "at", IllegalStateException.class, () -> plans.at(r, 0, 0));
        }
        if (robots > 0) {
            Check.thrown(name + "solve", IllegalStateException.class, () -> plans.solve(0));
            Check.thrown(name + "bound", IllegalStateException.class, plans::bound);
        }
        Check.thrown(name + "wall beside the grid", ArrayIndexOutOfBoundsException.class, () -> plans.wall(1, 0, true));
        Check.due(name + "wall", plans.wall(0, 0, false), false);
        Check.due(name + "swap", plans.swap(true), true);
    }

    private static void seedIsOneAtFirst() {
        JointPlans plans = Scenes.drawn(3, "b.2", "#.#", "c##");
        plans.start(0, 1, 0);
        plans.end(0, 1, 0);
        plans.end(2, 0, 2);
        Check.due("solve(1) by the first seed", plans.solve(1), 4);
        Check.due("solve(1) by the seed that followed", plans.solve(1), -1);
        plans.seed(1);
        Check.due("solve(1) by seed 1", plans.solve(1), 4);
    }
}
