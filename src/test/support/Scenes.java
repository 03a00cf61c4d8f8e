/** Makes objects for tests from drawings, and tells their plans as texts. */
final class Scenes {
    private Scenes() {
    }

    /**
     * Rows of a drawing: '#' is a wall, 'a' .. 'd' the starts of robots 0 .. 3, '1' .. '4' their ends; all else, and
     * the letters of robots that the object was not made for, is free.
     */
    static JointPlans drawn(int robots, String... rows) {
        JointPlans plans = new JointPlans(robots);
        plans.grid(rows[0].length(), rows.length);
        for (int y = 0; y < rows.length; y++) {
            for (int x = 0; x < rows[y].length(); x++) {
                char c = rows[y].charAt(x);
                if (c == '#') {
                    plans.wall(x, y, true);
                } else if (c >= 'a' && c < 'a' + robots) {
                    plans.start(c - 'a', x, y);
                } else if (c >= '1' && c < '1' + robots) {
                    plans.end(c - '1', x, y);
                }
            }
        }
        return plans;
    }

    /** A robot's cells from time 0 to the plan's last step, such as "00 10 11". */
    static String path(JointPlans plans, int robot) {
        StringBuilder text = new StringBuilder();
        for (int t = 0; t <= plans.last(); t++) {
            text.append(t == 0 ? "" : " ").append(plans.at(robot, t, 0)).append(plans.at(robot, t, 1));
        }
        return text.toString();
    }
}
