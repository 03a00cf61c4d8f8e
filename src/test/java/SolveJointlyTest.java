/** Promises 8 and 9, jointly: plans of two robots at most. */
public final class SolveJointlyTest {
    public static void main(String[] args) {
        noRobots();
        oneRobot();
        lowestMovesFirst();
        roundEachOther();
        oneMakesRoom();
        longerThanTheHorizon();
        noPlan();
        wrongCalls();
        restartsAreNothing();
        Check.finish();
    }

    private static void noRobots() {
        JointPlans plans = new JointPlans(0);
        Check.due("exact before", plans.exact(), false);
        Check.due("solve", plans.solve(0), 0);
        Check.due("exact", plans.exact(), true);
        Check.due("last", plans.last(), 0);
        Check.due("cost", plans.count(4), 0);
        Check.due("solve(5)", plans.solve(5), 0);
        Check.thrown("solve(6)", IllegalArgumentException.class, () -> plans.solve(6));
        Check.thrown("solve(-1)", IllegalArgumentException.class, () -> plans.solve(-1));
    }

    private static void oneRobot() {
        JointPlans plans = new JointPlans(1);
        plans.start(0, 0, 0);
        plans.end(0, 0, 0);
        Check.due("already there", plans.solve(0), 0);
        Check.due("no step", plans.last(), 0);
        Check.due("exact", plans.exact(), true);
        plans = Scenes.drawn(1,
            "a.....",
            "#####.",
            "......",
            ".#####",
            "......",
            "1####.");
        Check.due("a long way", plans.solve(0), 15);
        Check.due("its steps", plans.last(), 15);
        Check.due("its cells", Scenes.path(plans, 0), "00 10 20 30 40 50 51 52 42 32 22 12 02 03 04 05");
    }

    private static void lowestMovesFirst() {
        Check.due("right before down", solved(Scenes.drawn(1, "a..", "...", "..1"), 0), "00 10 20 21 22");
        Check.due("up before right", solved(Scenes.drawn(1, "..1", "...", "a.."), 0), "02 01 00 10 20");
        Check.due("down before left", solved(Scenes.drawn(1, "..a", "...", "1.."), 0), "20 21 22 12 02");
        Check.due("up before left", solved(Scenes.drawn(1, "1..", "...", "..a"), 0), "22 21 20 10 00");
        JointPlans plans = Scenes.drawn(2, "#b#", "a.1", "#2#");
        Check.due("robot 0 stays, for 0 is the lowest move", solved(plans, 0), "01 01 11 21");
        Check.due("robot 1 goes", Scenes.path(plans, 1), "10 11 12 12");
        Check.due("cost", plans.count(4), 5);
    }

    private static String solved(JointPlans plans, int robot) {
        plans.solve(0);
        return Scenes.path(plans, robot);
    }

    private static void roundEachOther() {
        JointPlans plans = new JointPlans(2);
        plans.grid(2, 2);
        plans.start(0, 0, 0);
        plans.end(0, 1, 0);
        plans.start(1, 1, 0);
        plans.end(1, 0, 0);
        Check.due("barred: one goes round", plans.solve(0), 4);
        Check.due("robot 0", Scenes.path(plans, 0), "00 10 10 10");
        Check.due("robot 1", Scenes.path(plans, 1), "10 11 01 00");
        plans.swap(false);
        Check.due("not barred", plans.solve(0), 2);
        Check.due("last", plans.last(), 1);
    }

    /** A robot at its end pays for leaving it and for coming back, not for staying. */
    private static void oneMakesRoom() {
        for (int first = 0; first <= 1; first++) {
            JointPlans plans = new JointPlans(2);
            plans.grid(3, 2);
            plans.wall(0, 1, true);
            plans.wall(2, 1, true);
            plans.start(first, 1, 0);
            plans.end(first, 1, 0);
            plans.start(1 - first, 0, 0);
            plans.end(1 - first, 2, 0);
            Check.due("cost", plans.solve(0), 4);
            Check.due("makes room", Scenes.path(plans, first), "10 11 10");
            Check.due("goes by", Scenes.path(plans, 1 - first), "00 10 20");
        }
    }

    private static void longerThanTheHorizon() {
        JointPlans plans = Scenes.drawn(2,
            "......",
            ".####.",
            ".#a#..",
            ".#.#.#",
            ".#.#..",
            ".b.#1#");
        plans.end(1, 2, 2);
        NaivePlans naive = new NaivePlans(2);
        naive.grid(6, 6);
        for (int i = 0; i < 36; i++) {
            if (isWall(plans, i % 6, i / 6)) {
                naive.wall(i % 6, i / 6, true);
            }
        }
        naive.start(0, 2, 2);
        naive.start(1, 1, 5);
        naive.end(0, 4, 5);
        naive.end(1, 2, 2);
        Check.due("cost", plans.solve(0), naive.solve(0));
        Check.due("more than 40 steps", plans.last(), 41);
        for (int t = 0; t <= 42; t++) {
            for (int i = 0; i < 4; i++) {
                Check.due("at " + t, plans.at(i / 2, t, i % 2), naive.at(i / 2, t, i % 2));
            }
        }
    }

    private static boolean isWall(JointPlans plans, int x, int y) {
        Object before = Check.answer(() -> plans.wall(x, y, true));
        if (before.equals(false)) {
            plans.wall(x, y, false);
        }
        return before.equals(true);
    }

    private static void noPlan() {
        JointPlans plans = Scenes.drawn(2, "a.1", "#.#", "b.2");
        Check.due("a plan", plans.solve(0), 4);
        Check.due("exact", plans.exact(), true);
        plans.wall(1, 0, true);
        Check.due("none", plans.solve(0), -1);
        Check.due("exact", plans.exact(), false);
        Check.due("cost", plans.count(4), -1);
        Check.thrown("last", IllegalStateException.class, plans::last);
        Check.thrown("at", IllegalStateException.class, () -> plans.at(0, 0, 0));
        plans.wall(1, 0, false);
        Check.due("one again", plans.solve(0), 4);
    }

    private static void wrongCalls() {
        JointPlans plans = Scenes.drawn(2, "a.1", "b..");
        for (int restarts : new int[] {-1, 6, Integer.MIN_VALUE, Integer.MAX_VALUE}) {
            Check.thrown("too many, an end missing", IllegalArgumentException.class, () -> plans.solve(restarts));
        }
        Check.thrown("an end is missing", IllegalStateException.class, () -> plans.solve(0));
        plans.end(1, 2, 1);
        plans.solve(0);
        for (int restarts : new int[] {-1, 6, Integer.MIN_VALUE, Integer.MAX_VALUE}) {
            Check.thrown("solve(" + restarts + ")", IllegalArgumentException.class, () -> plans.solve(restarts));
            Check.due("the plan stays", plans.count(4), 4);
        }
    }

    private static void restartsAreNothing() {
        for (int restarts = 0; restarts <= 5; restarts++) {
            JointPlans plans = Scenes.drawn(2, "#b#", "a.1", "#2#");
            Check.due("cost", plans.solve(restarts), 5);
            Check.due("path", Scenes.path(plans, 0), "01 01 11 21");
            Check.due("exact", plans.exact(), true);
        }
    }
}
