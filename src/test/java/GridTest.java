/** Promise 2: grid. */
public final class GridTest {
    public static void main(String[] args) {
        sizes();
        wrongSizeChangesNothing();
        newGridIsEmpty();
        swapAndSeedStay();
        Check.finish();
    }

    private static void sizes() {
        int[] sides = {Integer.MIN_VALUE, -1, 0, 1, 2, 3, 4, 5, 6, 7, 8, Integer.MAX_VALUE};
        JointPlans plans = new JointPlans(1);
        for (int width : sides) {
            for (int height : sides) {
                String name = "grid(" + width + ", " + height + ")";
                boolean fits = width >= 1 && width <= 6 && height >= 1 && height <= 6;
                if (!fits) {
                    Check.thrown(name, IllegalArgumentException.class, () -> { plans.grid(width, height); return 0; });
                    continue;
                }
                plans.grid(width, height);
                Check.due(name + " width", plans.count(1), width);
                Check.due(name + " height", plans.count(2), height);
                Check.due(name + " last cell", plans.start(0, width - 1, height - 1), true);
                Check.thrown(name + " beside", IllegalArgumentException.class, () -> plans.start(0, width, 0));
                Check.thrown(name + " below", IllegalArgumentException.class, () -> plans.start(0, 0, height));
            }
        }
    }

    private static void wrongSizeChangesNothing() {
        JointPlans plans = Scenes.drawn(1, "a#", ".1");
        plans.solve(0);
        Check.thrown("grid(0, 3)", IllegalArgumentException.class, () -> { plans.grid(0, 3); return 0; });
        Check.thrown("grid(3, 7)", IllegalArgumentException.class, () -> { plans.grid(3, 7); return 0; });
        Check.due("width", plans.count(1), 2);
        Check.due("height", plans.count(2), 2);
        Check.due("walls", plans.count(3), 1);
        Check.due("cost", plans.count(4), 2);
        Check.due("alone", plans.alone(0), 2);
        Check.due("path", Scenes.path(plans, 0), "00 01 11");
    }

    private static void newGridIsEmpty() {
        for (int robots = 1; robots <= 4; robots++) {
            JointPlans plans = Scenes.drawn(robots, "abcd", "1234", "#..#");
            plans.solve(0);
            Check.due("cost before", plans.count(4), robots);
            plans.grid(4, 3);
            Check.due("walls", plans.count(3), 0);
            Check.due("no wall", plans.wall(0, 2, false), false);
            Check.due("cost", plans.count(4), -1);
            Check.due("exact", plans.exact(), false);
            Check.thrown("last", IllegalStateException.class, plans::last);
            Check.thrown("at", IllegalStateException.class, () -> plans.at(0, 0, 0));
            Check.thrown("share", IllegalStateException.class, plans::share);
            Check.thrown("solve", IllegalStateException.class, () -> plans.solve(0));
            Check.thrown("bound", IllegalStateException.class, plans::bound);
            Check.due("a wall where a start was", plans.wall(0, 0, true), false);
            Check.due("a wall where an end was", plans.wall(0, 1, true), false);
            plans.start(0, 3, 0);
            Check.thrown("alone without an end", IllegalStateException.class, () -> plans.alone(0));
        }
        JointPlans none = new JointPlans(0);
        none.solve(0);
        none.grid(1, 1);
        Check.due("no robots, no plan", none.exact(), false);
    }

    private static void swapAndSeedStay() {
        JointPlans plans = new JointPlans(3);
        plans.swap(false);
        plans.grid(2, 2);
        Check.due("swaps stay as they are", plans.swap(true), false);
        plans.seed(1);
        putOneInTheWay(plans);
        Check.due("the first restart from seed 1", plans.solve(1), 4);
        putOneInTheWay(plans);
        Check.due("the seed goes on over grids", plans.solve(1), -1);
    }

    /** There is a plan only by orders in which robot 1 comes before robot 0, as 1, 2, 0, the first one from seed 1. */
    private static void putOneInTheWay(JointPlans plans) {
        plans.grid(3, 3);
        plans.wall(0, 1, true);
        plans.wall(2, 1, true);
        plans.wall(1, 2, true);
        plans.start(0, 1, 0);
        plans.end(0, 1, 0);
        plans.start(1, 0, 0);
        plans.end(1, 2, 0);
        plans.start(2, 0, 2);
        plans.end(2, 0, 2);
    }
}
