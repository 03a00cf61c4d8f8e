import java.util.Random;

/** A run of calls on one object, drawn by a seed, each answer compared with that of NaivePlans. */
final class DrawnRun {
    /** What later calls answer is free. */
    static final int MOST_CALLS = 512;

    private final Random random;
    private final int robots;
    private final JointPlans plans;
    private final NaivePlans naive;
    private final String name;
    private int width = 1;
    private int height = 1;
    private int calls = 0;

    DrawnRun(int run) {
        random = new Random(run);
        robots = random.nextInt(8) == 0 ? random.nextInt(9) - 2 : random.nextInt(5);
        plans = new JointPlans(robots);
        naive = new NaivePlans(robots);
        name = "run " + run + " with " + robots + " robots: ";
    }

    /** How many calls the object has had. */
    int calls() {
        return calls;
    }

    /** Makes calls of all kinds on some new grids. */
    void go() {
        int scenes = 1 + random.nextInt(3);
        for (int i = 0; i < scenes; i++) {
            layOut();
            for (int call = 0; call < 40; call++) {
                any();
            }
            tellPlan();
        }
    }

    private void compare(String call, Check.Call got, Check.Call want) {
        if (calls < MOST_CALLS) {
            calls++;
            Check.due(name + call, Check.answer(got), Check.answer(want));
        }
    }

    private int side() {
        return random.nextInt(12) == 0 ? random.nextInt(10) - 2 : 1 + random.nextInt(6);
    }

    private int x() {
        return random.nextInt(15) == 0 ? random.nextInt(10) - 2 : random.nextInt(width);
    }

    private int y() {
        return random.nextInt(15) == 0 ? random.nextInt(10) - 2 : random.nextInt(height);
    }

    private int robot() {
        return random.nextInt(15) == 0 || robots < 1 ? random.nextInt(8) - 2 : random.nextInt(Math.min(4, robots));
    }

    private void layOut() {
        grid(side(), side());
        int walls = random.nextInt(1 + width * height / 3);
        for (int i = 0; i < walls; i++) {
            wall(x(), y(), true);
        }
        for (int robot = 0; robot < robots; robot++) {
            for (int i = 0; i < 4; i++) {
                place(robot, true);
                place(robot, false);
            }
        }
        solve(random.nextInt(6));
        tellPlan();
    }

    private void grid(int w, int h) {
        compare("grid(" + w + ", " + h + ")", () -> { plans.grid(w, h); return "done"; },
            () -> { naive.grid(w, h); return "done"; });
        width = naive.count(1);
        height = naive.count(2);
    }

    private void wall(int x, int y, boolean on) {
        compare("wall(" + x + ", " + y + ", " + on + ")", () -> plans.wall(x, y, on), () -> naive.wall(x, y, on));
    }

    private void place(int robot, boolean start) {
        int x = x();
        int y = y();
        compare((start ? "start(" : "end(") + robot + ", " + x + ", " + y + ")",
            () -> start ? plans.start(robot, x, y) : plans.end(robot, x, y),
            () -> start ? naive.start(robot, x, y) : naive.end(robot, x, y));
    }

    private void solve(int restarts) {
        compare("solve(" + restarts + ")", () -> plans.solve(restarts), () -> naive.solve(restarts));
    }

    private void at(int robot, int t, int axis) {
        compare("at(" + robot + ", " + t + ", " + axis + ")", () -> plans.at(robot, t, axis),
            () -> naive.at(robot, t, axis));
    }

    private void any() {
        switch (random.nextInt(16)) {
            case 0, 1 -> wall(x(), y(), random.nextInt(3) > 0);
            case 2 -> place(robot(), true);
            case 3 -> place(robot(), false);
            case 4 -> {
                boolean barred = random.nextBoolean();
                compare("swap(" + barred + ")", () -> plans.swap(barred), () -> naive.swap(barred));
            }
            case 5 -> {
                int seed = random.nextInt(4) == 0 ? random.nextInt() : random.nextInt(100);
                compare("seed(" + seed + ")", () -> { plans.seed(seed); return "done"; },
                    () -> { naive.seed(seed); return "done"; });
            }
            case 6, 7 -> solve(random.nextInt(10) == 0 ? random.nextInt(10) - 2 : random.nextInt(6));
            case 8 -> compare("exact()", plans::exact, naive::exact);
            case 9 -> at(robot(), random.nextInt(45) - 1, random.nextInt(12) == 0 ? 2 : random.nextInt(2));
            case 10 -> compare("last()", plans::last, naive::last);
            case 11 -> {
                int robot = robot();
                compare("alone(" + robot + ")", () -> plans.alone(robot), () -> naive.alone(robot));
            }
            case 12 -> compare("bound()", plans::bound, naive::bound);
            case 13 -> compare("share()", plans::share, naive::share);
            default -> {
                int what = random.nextInt(8) - 1;
                compare("count(" + what + ")", () -> plans.count(what), () -> naive.count(what));
            }
        }
    }

    private void tellPlan() {
        compare("last()", plans::last, naive::last);
        compare("exact()", plans::exact, naive::exact);
        compare("share()", plans::share, naive::share);
        int steps = naive.exact() || naive.count(4) >= 0 ? naive.last() : 0;
        for (int robot = 0; robot < Math.min(4, robots); robot++) {
            for (int t = 0; t <= steps + 1; t++) {
                at(robot, t, 0);
                at(robot, t, 1);
            }
        }
    }
}
