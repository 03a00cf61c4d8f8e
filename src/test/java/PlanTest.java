/** Promises 9, 10 and 11: exact, at and last. */
public final class PlanTest {
    public static void main(String[] args) {
        cellsInTime();
        wrongArguments();
        withoutAPlan();
        lastStepOfAll();
        exactOnlyJointly();
        Check.finish();
    }

    private static void cellsInTime() {
        JointPlans plans = Scenes.drawn(2, "a....1", "......", "b.2...");
        plans.solve(0);
        Check.due("last", plans.last(), 5);
        for (int t = 0; t <= 5; t++) {
            Check.due("x of robot 0 at " + t, plans.at(0, t, 0), t);
            Check.due("y of robot 0 at " + t, plans.at(0, t, 1), 0);
            Check.due("x of robot 1 at " + t, plans.at(1, t, 0), Math.min(t, 2));
            Check.due("y of robot 1 at " + t, plans.at(1, t, 1), 2);
        }
        for (int t : new int[] {6, 7, 40, 41, 1295, 1296, 1297, 100000, Integer.MAX_VALUE}) {
            Check.due("x behind the plan", plans.at(0, t, 0), 5);
            Check.due("y behind the plan", plans.at(0, t, 1), 0);
            Check.due("x of robot 1 behind the plan", plans.at(1, t, 0), 2);
            Check.due("y of robot 1 behind the plan", plans.at(1, t, 1), 2);
        }
        JointPlans four = Scenes.drawn(4, "abcd..", "......", "..1234");
        four.solve(0);
        for (int robot = 0; robot < 4; robot++) {
            for (int t : new int[] {four.last(), 40, 41, 42, Integer.MAX_VALUE}) {
                Check.due("x behind the plan of four", four.at(robot, t, 0), robot + 2);
                Check.due("y behind the plan of four", four.at(robot, t, 1), 2);
            }
            Check.due("x at first", four.at(robot, 0, 0), robot);
            Check.due("y at first", four.at(robot, 0, 1), 0);
        }
    }

    private static void wrongArguments() {
        for (int robots = 0; robots <= 4; robots++) {
            JointPlans plans = Scenes.drawn(robots, "abcd", "1234");
            for (int made = 0; made < 2; made++) {
                int[][] wrong = {
                    {-1, 0, 0}, {robots, 0, 0}, {4, 0, 0}, {Integer.MIN_VALUE, 0, 0}, {Integer.MAX_VALUE, 0, 0},
                    {0, -1, 0}, {0, Integer.MIN_VALUE, 1}, {0, 0, -1}, {0, 0, 2}, {0, 0, Integer.MAX_VALUE},
                    {0, 0, Integer.MIN_VALUE}, {robots, -1, 2},
                };
                for (int[] a : wrong) {
                    String name = robots + " robots: at(" + a[0] + ", " + a[1] + ", " + a[2] + ")";
                    Check.thrown(name, IllegalArgumentException.class, () -> plans.at(a[0], a[1], a[2]));
                }
                plans.solve(0);
            }
        }
    }

    private static void withoutAPlan() {
        for (int robots = 1; robots <= 4; robots++) {
            JointPlans plans = Scenes.drawn(robots, "abcd", "1234");
            Check.due("exact", plans.exact(), false);
            Check.thrown("at", IllegalStateException.class, () -> plans.at(0, 0, 0));
            Check.thrown("last", IllegalStateException.class, plans::last);
            plans.solve(0);
            Check.due("last", plans.last(), 1);
        }
    }

    /** A robot that comes to its end, leaves it and comes back counts up to its last move. */
    private static void lastStepOfAll() {
        JointPlans plans = Scenes.drawn(3, "...", "#.#", "b.2", "#.#", "c##");
        plans.wall(1, 3, true);
        plans.start(0, 1, 2);
        plans.end(0, 1, 2);
        plans.end(2, 0, 4);
        plans.seed(1);
        Check.due("cost", plans.solve(1), 4);
        Check.due("robot 0 is at its end at 0 and 2", Scenes.path(plans, 0), "12 11 12");
        Check.due("last", plans.last(), 2);
    }

    private static void exactOnlyJointly() {
        for (int robots = 0; robots <= 4; robots++) {
            JointPlans plans = Scenes.drawn(robots, "abcd", "1234");
            Check.due("exact before", plans.exact(), false);
            plans.solve(0);
            Check.due("exact for " + robots, plans.exact(), robots <= 2);
            Check.thrown("too many", IllegalArgumentException.class, () -> plans.solve(9));
            Check.due("exact still", plans.exact(), robots <= 2);
            plans.grid(2, 2);
            Check.due("exact behind grid", plans.exact(), false);
        }
    }
}
