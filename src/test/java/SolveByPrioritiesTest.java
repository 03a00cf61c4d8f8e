/** Promises 8 and 9, by priorities: plans of three and four robots. */
public final class SolveByPrioritiesTest {
    public static void main(String[] args) {
        allThere();
        laterOnesWait();
        firstOfEqualPlans();
        cheaperPlanWins();
        fourRobotsInARing();
        timesEndAtForty();
        timesBeyondForty();
        noPlan();
        wrongCalls();
        Check.finish();
    }

    private static void allThere() {
        for (int robots = 3; robots <= 4; robots++) {
            JointPlans plans = new JointPlans(robots);
            plans.grid(robots, 1);
            for (int robot = 0; robot < robots; robot++) {
                plans.start(robot, robot, 0);
                plans.end(robot, robot, 0);
            }
            Check.due("cost", plans.solve(5), 0);
            Check.due("last", plans.last(), 0);
            Check.due("not exact", plans.exact(), false);
            Check.thrown("share", ArithmeticException.class, plans::share);
        }
    }

    /** Two ways cross; robot 2 is shut in below. */
    private static JointPlans crossing() {
        JointPlans plans = Scenes.drawn(3, "#b#", "a.1", "#2#", "###", "c##");
        plans.end(2, 0, 4);
        return plans;
    }

    private static void laterOnesWait() {
        JointPlans plans = crossing();
        Check.due("cost", plans.solve(0), 5);
        Check.due("last", plans.last(), 3);
        Check.due("robot 0 goes", Scenes.path(plans, 0), "01 11 21 21");
        Check.due("robot 1 waits", Scenes.path(plans, 1), "10 10 11 12");
        Check.due("not exact", plans.exact(), false);
        Check.due("share", plans.share(), 80);
    }

    /** From seed 1 the first restart has the order 1, 2, 0, in which robot 0 would wait, at the same cost. */
    private static void firstOfEqualPlans() {
        for (int restarts = 1; restarts <= 5; restarts++) {
            JointPlans plans = crossing();
            Check.due("cost", plans.solve(restarts), 5);
            Check.due("robot 0 goes", Scenes.path(plans, 0), "01 11 21 21");
        }
    }

    /**
     * By the first order robot 1 goes round robot 0, at 8 moves; by the order 1, 2, 0, which follows from seed 1,
     * robot 0 steps aside, at 2 moves beside the 4 of robot 1; by the order 0, 2, 1, which follows, as by the first.
     */
    private static void cheaperPlanWins() {
        JointPlans plans = Scenes.drawn(3, ".....", ".###.", "b...2", "##.##", "c####");
        plans.start(0, 2, 2);
        plans.end(0, 2, 2);
        plans.end(2, 0, 4);
        Check.due("round it", plans.solve(0), 8);
        Check.due("robot 0 stays", Scenes.path(plans, 0), "22 22 22 22 22 22 22 22 22");
        Check.due("robot 1 goes round", Scenes.path(plans, 1), "02 01 00 10 20 30 40 41 42");
        Check.due("aside", plans.solve(1), 6);
        Check.due("robot 0 steps aside", Scenes.path(plans, 0), "22 22 23 22 22");
        Check.due("robot 1 goes on", Scenes.path(plans, 1), "02 12 22 32 42");
        Check.due("round it again", plans.solve(1), 8);
        plans.seed(1);
        Check.due("the best of six", plans.solve(5), 6);
        Check.due("robot 0 steps aside again", Scenes.path(plans, 0), "22 22 23 22 22");
    }

    private static void fourRobotsInARing() {
        JointPlans plans = new JointPlans(4);
        plans.grid(2, 2);
        int[][] ring = {{0, 0}, {1, 0}, {1, 1}, {0, 1}};
        for (int robot = 0; robot < 4; robot++) {
            plans.start(robot, ring[robot][0], ring[robot][1]);
            plans.end(robot, ring[(robot + 1) % 4][0], ring[(robot + 1) % 4][1]);
        }
        Check.due("all at once", plans.solve(0), 4);
        Check.due("one step", plans.last(), 1);
    }

    private static void timesEndAtForty() {
        JointPlans plans = Scenes.drawn(3,
            "....##",
            "..#.#.",
            "ac#b#.",
            "##..#.",
            "##.#1.",
            "##....");
        plans.end(1, 0, 0);
        plans.end(2, 5, 1);
        Check.due("a plan up to time 40", plans.solve(0) > 0, true);
        Check.due("last", plans.last(), 40);
        Check.due("x at its end", plans.at(1, 40, 0) + plans.at(2, 40, 0) + plans.at(0, 40, 0), 9);
        Check.due("y at its end", plans.at(1, 40, 1) + plans.at(2, 40, 1) + plans.at(0, 40, 1), 5);
    }

    private static void timesBeyondForty() {
        JointPlans plans = Scenes.drawn(3,
            "#...#.",
            "ac#.#.",
            "..#b#.",
            "##..#.",
            "##.#1.",
            ".#....");
        plans.end(1, 0, 1);
        plans.end(2, 5, 1);
        Check.due("it would need time 41", plans.solve(0), -1);
    }

    private static void noPlan() {
        JointPlans plans = Scenes.drawn(3, "ab.", "12.", "c.3");
        Check.due("a plan", plans.solve(0), 4);
        plans.wall(1, 2, true);
        Check.due("robots 0 and 1 stand in the way of robot 2", plans.solve(0), -1);
        Check.due("the plan is gone", plans.count(4), -1);
        Check.due("not exact", plans.exact(), false);
        Check.thrown("last", IllegalStateException.class, plans::last);
        Check.thrown("at", IllegalStateException.class, () -> plans.at(0, 0, 0));
        JointPlans row = Scenes.drawn(3, "abc");
        row.end(0, 2, 0);
        row.end(1, 1, 0);
        row.end(2, 0, 0);
        Check.due("no room to pass", row.solve(5), -1);
    }

    private static void wrongCalls() {
        for (int robots = 3; robots <= 4; robots++) {
            JointPlans plans = Scenes.drawn(robots, "abcd", "12.4");
            for (int restarts : new int[] {-1, 6, Integer.MIN_VALUE, Integer.MAX_VALUE}) {
                Check.thrown("too many, an end missing", IllegalArgumentException.class, () -> plans.solve(restarts));
            }
            Check.thrown("an end is missing", IllegalStateException.class, () -> plans.solve(5));
        }
        JointPlans plans = Scenes.drawn(3, "abc", "123");
        plans.solve(2);
        Check.thrown("solve(6)", IllegalArgumentException.class, () -> plans.solve(6));
        Check.due("the plan stays", plans.count(4), 3);
    }
}
