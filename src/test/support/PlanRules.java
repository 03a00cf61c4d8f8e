/** Looks at a plan that was made for a drawing: whether each of its steps is one, and what they cost together. */
final class PlanRules {
    private final JointPlans plans;
    private final String[] rows;

    private PlanRules(JointPlans plans, String[] rows) {
        this.plans = plans;
        this.rows = rows;
    }

    /** Solves the drawing with swaps barred and checks the plan. */
    static void check(int robots, String... rows) {
        String name = String.join("/", rows) + ": ";
        JointPlans plans = Scenes.drawn(robots, rows);
        int cost = plans.solve(0);
        PlanRules rules = new PlanRules(plans, rows);
        Check.due(name + "there is a plan", cost >= 0, true);
        if (cost < 0) {
            return;
        }
        for (int robot = 0; robot < robots; robot++) {
            Check.due(name + "at its start", Scenes.starter(rules.drawnAt(robot, 0)), robot);
            Check.due(name + "at its end", Scenes.ender(rules.drawnAt(robot, plans.last())), robot);
        }
        int sum = 0;
        for (int t = 0; t < plans.last(); t++) {
            Check.due(name + "what is wrong with step " + t, rules.fault(t), "");
            sum += rules.costOf(t);
            Check.due(name + "step " + t + " costs something", rules.costOf(t) > 0, true);
        }
        Check.due(name + "its cost", cost, sum);
    }

    private char drawnAt(int robot, int t) {
        return rows[plans.at(robot, t, 1)].charAt(plans.at(robot, t, 0));
    }

    private int cell(int robot, int t) {
        return plans.at(robot, t, 0) + 10 * plans.at(robot, t, 1);
    }

    private String fault(int t) {
        for (int robot = 0; robot < plans.count(0); robot++) {
            int dx = Math.abs(plans.at(robot, t + 1, 0) - plans.at(robot, t, 0));
            int dy = Math.abs(plans.at(robot, t + 1, 1) - plans.at(robot, t, 1));
            if (dx + dy > 1 || drawnAt(robot, t + 1) == '#') {
                return "robot " + robot + " makes no move";
            }
            for (int other = 0; other < robot; other++) {
                boolean change = cell(robot, t) == cell(other, t + 1) && cell(other, t) == cell(robot, t + 1);
                if (change || cell(robot, t + 1) == cell(other, t + 1)) {
                    return "robots " + other + " and " + robot + " meet";
                }
            }
        }
        return "";
    }

    private int costOf(int t) {
        int sum = 0;
        for (int robot = 0; robot < plans.count(0); robot++) {
            boolean stays = cell(robot, t) == cell(robot, t + 1);
            sum += stays && Scenes.ender(drawnAt(robot, t)) == robot ? 0 : 1;
        }
        return sum;
    }
}
