/** Promises 6 and 7: swap and seed. */
public final class SwapAndSeedTest {
    public static void main(String[] args) {
        swapAnswers();
        swapsJointly();
        swapsByPriorities();
        planStays();
        wrongSeeds();
        seedGoesOn();
        largestSeed();
        Check.finish();
    }

    private static void swapAnswers() {
        JointPlans plans = new JointPlans(2);
        Check.due("barred at first", plans.swap(true), true);
        Check.due("barred still", plans.swap(false), true);
        Check.due("not barred", plans.swap(false), false);
        Check.due("not barred still", plans.swap(true), false);
        Check.due("barred again", plans.swap(true), true);
    }

    private static void swapsJointly() {
        JointPlans plans = new JointPlans(2);
        plans.grid(2, 1);
        plans.start(0, 0, 0);
        plans.end(0, 1, 0);
        plans.start(1, 1, 0);
        plans.end(1, 0, 0);
        Check.due("barred", plans.solve(0), -1);
        plans.swap(false);
        Check.due("not barred", plans.solve(0), 2);
        Check.due("robot 0", Scenes.path(plans, 0), "00 10");
        Check.due("robot 1", Scenes.path(plans, 1), "10 00");
        plans.swap(true);
        Check.due("barred again", plans.solve(0), -1);
    }

    private static void swapsByPriorities() {
        JointPlans plans = new JointPlans(3);
        plans.grid(4, 1);
        plans.start(0, 0, 0);
        plans.end(0, 1, 0);
        plans.start(1, 1, 0);
        plans.end(1, 0, 0);
        plans.start(2, 3, 0);
        plans.end(2, 3, 0);
        Check.due("barred", plans.solve(5), -1);
        plans.swap(false);
        Check.due("not barred", plans.solve(5), 2);
        Check.due("robot 1", Scenes.path(plans, 1), "10 00");
    }

    private static void planStays() {
        JointPlans plans = Scenes.drawn(1, "a1");
        plans.solve(0);
        plans.swap(false);
        plans.seed(7);
        Check.due("cost", plans.count(4), 1);
    }

    private static void wrongSeeds() {
        for (int robots = 0; robots <= 4; robots++) {
            JointPlans plans = new JointPlans(robots);
            for (int seed : new int[] {-1, -2, Integer.MIN_VALUE}) {
                String name = "seed(" + seed + ")";
                Check.thrown(name, IllegalArgumentException.class, () -> { plans.seed(seed); return 0; });
            }
            for (int seed : new int[] {0, 1, Integer.MAX_VALUE}) {
                Check.due("seed(" + seed + ")", Check.answer(() -> { plans.seed(seed); return "done"; }), "done");
            }
        }
    }

    /** Robot 0 stands in the way of robot 1 and leaves it only if robot 1 comes before it. */
    private static JointPlans oneInTheWay() {
        JointPlans plans = Scenes.drawn(3, "b.2", "#.#", "c##");
        plans.start(0, 1, 0);
        plans.end(0, 1, 0);
        plans.end(2, 0, 2);
        return plans;
    }

    /**
     * By hand, from seed 1: x / 65536 is 16838, 5758 (order 1, 2, 0); 10113, 17515 (0, 2, 1); 31051, 5627 (0, 1, 2);
     * 23010, 7419 (2, 0, 1), which would be 1, 0, 2 if an order went on from the one before it.
     */
    private static void seedGoesOn() {
        JointPlans plans = oneInTheWay();
        Check.due("no restart", plans.solve(0), -1);
        Check.due("order 1, 2, 0", plans.solve(1), 4);
        Check.due("robot 0", Scenes.path(plans, 0), "10 11 10");
        Check.due("robot 1", Scenes.path(plans, 1), "00 10 20");
        Check.due("robot 2", Scenes.path(plans, 2), "02 02 02");
        Check.due("order 0, 2, 1", plans.solve(1), -1);
        Check.due("order 0, 1, 2", plans.solve(1), -1);
        plans.seed(1);
        Check.due("order 1, 2, 0 again", plans.solve(1), 4);
        Check.due("each order is made anew from 0, 1, 2", plans.solve(3), -1);
        plans.seed(1);
        Check.thrown("too many", IllegalArgumentException.class, () -> plans.solve(6));
        Check.due("no seed was used", plans.solve(1), 4);
        plans.seed(1);
        Check.due("none is used without restarts", plans.solve(0), -1);
        Check.due("order 1, 2, 0 of five", plans.solve(5), 4);
        plans.seed(1);
        Check.thrown("below 0", IllegalArgumentException.class, () -> { plans.seed(-5); return 0; });
        Check.due("the seed stays", plans.solve(1), 4);
    }

    /** Seeds as large as they can be must not run over. */
    private static void largestSeed() {
        for (int seed = Integer.MAX_VALUE; seed > Integer.MAX_VALUE - 40; seed--) {
            JointPlans plans = oneInTheWay();
            plans.seed(seed);
            long one = next(seed);
            long two = next(one);
            boolean exchanged = one / 65536 % 2 == 0;
            long k2 = two / 65536 % 3;
            boolean before = exchanged ? k2 != 0 : k2 == 0;
            Check.due("seed " + seed, plans.solve(1), before ? 4 : -1);
        }
    }

    private static long next(long x) {
        return (x * 1103515245L + 12345L) & 0x7fffffffL;
    }
}
