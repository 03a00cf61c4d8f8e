/** Makes objects for tests from drawings, and tells their plans as texts. */
final class Scenes {
    private Scenes() {
    }

    /**
     * Rows of a drawing: '#' is a wall, 'a' .. 'd' the starts of robots 0 .. 3, '1' .. '4' their ends, 'A' .. 'D' both
     * at one cell; all else, and the letters of robots that the object was not made for, is free.
     */
    static JointPlans drawn(int robots, String... rows) {
        JointPlans plans = new JointPlans(robots);
        draw(plans, rows);
        return plans;
    }

    /** Gives an object a new grid by a drawing. */
    static void draw(JointPlans plans, String... rows) {
        int robots = plans.count(0);
        plans.grid(rows[0].length(), rows.length);
        for (int y = 0; y < rows.length; y++) {
            for (int x = 0; x < rows[y].length(); x++) {
                char c = rows[y].charAt(x);
                if (c == '#') {
                    plans.wall(x, y, true);
                }
                if (starter(c) >= 0 && starter(c) < robots) {
                    plans.start(starter(c), x, y);
                }
                if (ender(c) >= 0 && ender(c) < robots) {
                    plans.end(ender(c), x, y);
                }
            }
        }
    }

    /** The robot that starts at a cell that is drawn so, or -1. */
    static int starter(char c) {
        return c >= 'a' && c <= 'd' ? c - 'a' : c >= 'A' && c <= 'D' ? c - 'A' : -1;
    }

    /** The robot that ends at a cell that is drawn so, or -1. */
    static int ender(char c) {
        return c >= '1' && c <= '4' ? c - '1' : c >= 'A' && c <= 'D' ? c - 'A' : -1;
    }

    /** An object on a grid without walls, with a robot for each way, such as "00>21" from cell 0, 0 to cell 2, 1. */
    static JointPlans ways(int width, int height, String... ways) {
        JointPlans plans = new JointPlans(ways.length);
        plans.grid(width, height);
        for (int robot = 0; robot < ways.length; robot++) {
            String way = ways[robot];
            plans.start(robot, way.charAt(0) - '0', way.charAt(1) - '0');
            plans.end(robot, way.charAt(3) - '0', way.charAt(4) - '0');
        }
        return plans;
    }

    /** A robot's cells from time 0 to the plan's last step, such as "00 10 11". */
    static String path(JointPlans plans, int robot) {
        StringBuilder text = new StringBuilder();
        for (int t = 0; t <= plans.last(); t++) {
            text.append(t == 0 ? "" : " ").append(plans.at(robot, t, 0)).append(plans.at(robot, t, 1));
        }
        return text.toString();
    }

    /** The whole plan, or that there is none. */
    static String plan(JointPlans plans) {
        if (plans.count(4) < 0) {
            return "no plan";
        }
        StringBuilder text = new StringBuilder("cost " + plans.count(4));
        for (int robot = 0; robot < plans.count(0); robot++) {
            text.append(", ").append(path(plans, robot));
        }
        return text.toString();
    }

    /** What answers tell of an object's state: two objects that tell the same are the same for these tests. */
    static String state(JointPlans plans) {
        StringBuilder text = new StringBuilder();
        for (int what = 0; what < 5; what++) {
            text.append(plans.count(what)).append(' ');
        }
        for (int robot = 0; robot < plans.count(0); robot++) {
            int r = robot;
            text.append(Check.answer(() -> plans.alone(r))).append(' ');
        }
        text.append(Check.answer(plans::bound)).append(' ').append(Check.answer(plans::share)).append(' ');
        return text.append(plans.exact()).append(' ').append(plan(plans)).toString();
    }

    static Object grid(JointPlans plans, int width, int height) {
        plans.grid(width, height);
        return "done";
    }

    static Object seed(JointPlans plans, int x) {
        plans.seed(x);
        return "done";
    }
}
