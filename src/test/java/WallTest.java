/** Promise 3: wall. */
public final class WallTest {
    public static void main(String[] args) {
        answersAndCount();
        noSuchCell();
        startOrEndIsThere();
        wallsBarMoves();
        planStays();
        Check.finish();
    }

    private static void answersAndCount() {
        JointPlans plans = new JointPlans(1);
        plans.grid(6, 6);
        for (int i = 0; i < 36; i++) {
            Check.due("a new wall", plans.wall(i % 6, i / 6, true), false);
            Check.due("the same wall", plans.wall(i % 6, i / 6, true), true);
            Check.due("walls", plans.count(3), i + 1);
        }
        for (int i = 0; i < 36; i++) {
            Check.due("a wall goes", plans.wall(i % 6, i / 6, false), true);
            Check.due("none is left there", plans.wall(i % 6, i / 6, false), false);
            Check.due("walls", plans.count(3), 35 - i);
        }
    }

    private static void noSuchCell() {
        JointPlans plans = new JointPlans(2);
        plans.grid(3, 2);
        int[][] cells = {
            {-1, 0}, {0, -1}, {3, 0}, {0, 2}, {3, 2}, {5, 0}, {0, 5}, {6, 0}, {-6, 1},
            {Integer.MIN_VALUE, 0}, {0, Integer.MAX_VALUE}, {Integer.MAX_VALUE, Integer.MIN_VALUE},
        };
        for (int[] c : cells) {
            String name = "wall(" + c[0] + ", " + c[1] + ")";
            Check.thrown(name, ArrayIndexOutOfBoundsException.class, () -> plans.wall(c[0], c[1], true));
            Check.thrown(name, ArrayIndexOutOfBoundsException.class, () -> plans.wall(c[0], c[1], false));
        }
        Check.due("walls", plans.count(3), 0);
    }

    private static void startOrEndIsThere() {
        for (int robots = 1; robots <= 4; robots++) {
            JointPlans plans = Scenes.drawn(robots, "abcd", "1234");
            for (int robot = 0; robot < 4; robot++) {
                int x = robot;
                if (robot >= robots) {
                    Check.due("no robot " + x, plans.wall(x, 0, true), false);
                    continue;
                }
                Check.thrown("on a start", IllegalStateException.class, () -> plans.wall(x, 0, true));
                Check.thrown("on an end", IllegalStateException.class, () -> plans.wall(x, 1, true));
                Check.thrown("off a start", IllegalStateException.class, () -> plans.wall(x, 0, false));
                Check.thrown("off an end", IllegalStateException.class, () -> plans.wall(x, 1, false));
            }
            Check.due("walls", plans.count(3), 4 - robots);
        }
        JointPlans plans = Scenes.drawn(1, "a1.");
        plans.start(0, 2, 0);
        Check.due("where a start was", plans.wall(0, 0, true), false);
    }

    private static void wallsBarMoves() {
        JointPlans plans = Scenes.drawn(1, "a.1", "...");
        Check.due("straight on", plans.solve(0), 2);
        plans.wall(1, 0, true);
        Check.due("round it", plans.solve(0), 4);
        plans.wall(1, 1, true);
        Check.due("no way", plans.solve(0), -1);
        plans.wall(1, 0, false);
        Check.due("open again", plans.solve(0), 2);
    }

    private static void planStays() {
        JointPlans plans = Scenes.drawn(1, "a.1");
        plans.solve(0);
        plans.wall(1, 0, true);
        Check.due("the plan stays", Scenes.path(plans, 0), "00 10 20");
        Check.due("its cost stays", plans.count(4), 2);
        Check.due("it is exact still", plans.exact(), true);
    }
}
