import java.util.ArrayList;
import java.util.List;

/** Boundary cases of the term BY PRIORITIES. */
final class EdgesOfPriorities {
    private static final int[] SEEDS = {
        0, 1, 2, 3, 7, 42, 32767, 32768, 65535, 65536, 65537, 1103515245, 1 << 30, (1 << 30) - 1,
        Integer.MAX_VALUE - 2, Integer.MAX_VALUE - 1, Integer.MAX_VALUE,
    };

    private EdgesOfPriorities() {
    }

    static void run() {
        Sentences.section("Terms");
        Sentences.holds("BY PRIORITIES, for more: the robots one behind the other.",
            EdgesOfPriorities::oneBehindTheOther);
        Sentences.holds("Each moves through the times 0 .. 40 from its start, is at its end at time 40,",
            EdgesOfPriorities::upToTimeForty);
        Sentences.holds("is at no time at the cell at which a robot before it is,", EdgesOfPriorities::atNoTime);
        Sentences.holds("and, if swaps are barred, changes cells with none of them;", EdgesOfPriorities::noChange);
        Sentences.holds("at the least cost of its own, each move in turn the lowest that keeps it.",
            EdgesOfPriorities::leastOfItsOwn);
        Sentences.holds("If a robot can't, there is no plan by these priorities.", EdgesOfPriorities::oneCanNot);
        Sentences.holds("ORDERS of priorities: 0, 1, 2, .. first; then for each RESTART a new one:",
            EdgesOfPriorities::firstOrderFirst);
        Sentences.holds("from the order 0, 1, 2, .. for k = 1, 2, .. the robot at place k changes its place",
            EdgesOfPriorities::ordersByHand);
        Sentences.holds("with that at place (x / 65536) modulo (k + 1),", EdgesOfPriorities::ordersOfManySeeds);
        Sentences.holds("after the seed x (1 at first) became (x * 1103515245 + 12345) modulo 2147483648.",
            EdgesOfPriorities::seedGoesRound);
        Sentences.holds("The plan at the least cost, of equal ones the first.", EdgesOfPriorities::firstOfEqualOnes);
    }

    /** Two robots can make room for each other at the middle, but neither of them on its own least way. */
    private static void oneBehindTheOther() {
        JointPlans two = Scenes.drawn(2, "...", "#.#");
        putAcross(two);
        Check.due("jointly", two.solve(0) > 0, true);
        Check.due("jointly", two.exact(), true);
        for (int robots = 3; robots <= 4; robots++) {
            JointPlans more = Scenes.drawn(robots, "...", "#.#", "###", "C#D");
            putAcross(more);
            for (int seed = 0; seed < 10; seed++) {
                more.seed(seed);
                Check.due("one behind the other", more.solve(5), -1);
            }
            JointPlans plans = Scenes.drawn(robots, "abcd", "1234");
            Check.due("a plan", plans.solve(0), robots);
            Check.due("not jointly", plans.exact(), false);
        }
    }

    private static void putAcross(JointPlans plans) {
        plans.start(0, 0, 0);
        plans.end(0, 2, 0);
        plans.start(1, 2, 0);
        plans.end(1, 0, 0);
    }

    /**
     * A long corridor from 0, 0 to 4, 4, of 20 moves, and behind it the end of robot 0, at one move. Robot 1 waits
     * beside 4, 4 until robot 0 is through and goes back all the way; robot 2 stays in the corner.
     */
    static JointPlans longWay(int robots, String startOf0, String endOf1) {
        JointPlans plans = Scenes.drawn(robots, "......", "#####.", "......", ".#####", ".#...1", "...#bC");
        plans.start(0, startOf0.charAt(0) - '0', startOf0.charAt(1) - '0');
        plans.end(1, endOf1.charAt(0) - '0', endOf1.charAt(1) - '0');
        return plans;
    }

    private static void upToTimeForty() {
        JointPlans forty = longWay(3, "10", "00");
        Check.due("robot 0 at time 20, robot 1 at time 40", forty.solve(0), 60);
        Check.due("last", forty.last(), 40);
        Check.due("not there at time 39", forty.at(1, 39, 0), 1);
        Check.due("there at time 40", forty.at(1, 40, 0), 0);
        Check.due("robot 1 waits up to time 19", forty.at(1, 19, 1), 5);
        Check.due("robot 1 goes at once", forty.at(1, 20, 1), 4);
        Check.due("it would need time 41", longWay(3, "00", "00").solve(0), -1);
        JointPlans nearer = longWay(3, "00", "10");
        Check.due("robot 0 at time 21, robot 1 at time 40", nearer.solve(0), 61);
        Check.due("last", nearer.last(), 40);
        JointPlans earlier = longWay(3, "10", "10");
        Check.due("start of 0 and end of 1 at one cell", earlier.solve(0), 59);
        Check.due("last", earlier.last(), 39);
        Check.due("at first at its start", Scenes.path(earlier, 0).substring(0, 2), "10");
    }

    private static void atNoTime() {
        Check.due("robot 0 stays in the way", Scenes.drawn(3, "bA2#C", "#.###").solve(0), -1);
        Check.due("robot 1 stays in the way", Scenes.drawn(3, "cB3#A", "#.###").solve(0), -1);
        Check.due("robot 0 in the way of the last", Scenes.drawn(4, "dA4#C", "#.##B").solve(0), -1);
        JointPlans away = Scenes.drawn(3, "aB1#C", "#.###");
        Check.due("a later one makes room", away.solve(0), 4);
        Check.due("robot 1 goes aside", Scenes.path(away, 1), "10 11 10");
        JointPlans late = Scenes.drawn(3, "a1...2", "####.#", "C#b..#");
        Check.due("robot 1 is never in the way", late.solve(0), 1 + 5);
        JointPlans blocked = Scenes.drawn(3, "a..1.2", ".#####", "b###.C");
        Check.due("robot 0 is at its end for all times", blocked.solve(0), -1);
    }

    private static void noChange() {
        JointPlans plans = Scenes.drawn(3, "..#C");
        plans.start(0, 0, 0);
        plans.end(0, 1, 0);
        plans.start(1, 1, 0);
        plans.end(1, 0, 0);
        Check.due("barred", plans.solve(5), -1);
        plans.swap(false);
        Check.due("not barred", plans.solve(0), 2);
        Check.due("in one step", plans.last(), 1);
        JointPlans late = longWay(3, "10", "00");
        late.start(2, 0, 0);
        late.end(2, 1, 0);
        Check.due("robot 2 can't change cells with robot 1 in the last step, at time 40", late.solve(0), -1);
        JointPlans ring = Scenes.ways(2, 2, "00>10", "10>11", "11>00");
        Check.due("three that go round change no cells", ring.solve(0), 4);
        JointPlans all = Scenes.ways(2, 2, "00>01", "01>11", "11>10", "10>00");
        Check.due("four that go round change no cells", all.solve(0), 4);
        JointPlans behind = Scenes.ways(4, 1, "10>20", "00>10", "20>30");
        Check.due("one behind the other changes no cells", behind.solve(0), 3);
    }

    private static void leastOfItsOwn() {
        JointPlans cross = Scenes.drawn(3, "#b##", "#.##", "a.1#", "#2#C");
        Check.due("robot 1 is at the crossing behind robot 0", cross.solve(0), 5);
        Check.due("robot 0 goes", Scenes.path(cross, 0), "02 12 22 22");
        Check.due("robot 1 goes", Scenes.path(cross, 1), "10 11 12 13");
        JointPlans wait = Scenes.drawn(3, ".#b##", ".#.##", "a...1", ".#2#C");
        Check.due("robot 1 has to wait", wait.solve(0), 4 + 4);
        Check.due("it waits at first, for 0 is the lowest move", Scenes.path(wait, 1), "20 20 21 22 23");
        JointPlans own = Scenes.drawn(3, ".....", ".###.", "b.A.2", "##.##", "C####");
        Check.due("robot 0 pays nothing, robot 1 goes round", own.solve(0), 8);
        Check.due("robot 0", Scenes.path(own, 0), "22 22 22 22 22 22 22 22 22");
        JointPlans lowest = Scenes.drawn(3, "...1", "....", "a..2", "bc.3");
        Check.due("all on their least ways", lowest.solve(0), 5 + 4 + 2);
        Check.due("robot 0 up before right", Scenes.path(lowest, 0), "02 01 00 10 20 30");
        Check.due("robot 1 up before right", Scenes.path(lowest, 1), "03 02 12 22 32 32");
    }

    private static void oneCanNot() {
        for (int robot = 0; robot < 4; robot++) {
            JointPlans plans = Scenes.drawn(4, "ABCD", "....", "###.", ".#..");
            Check.due("all can", plans.solve(0), 0);
            plans.end(robot, 0, 3);
            Check.due("robot " + robot + " can't by any order", plans.solve(5), -1);
            Check.due("no plan", plans.count(4), -1);
        }
        JointPlans plans = inTheWay(4, 0, 1);
        Check.due("none by the first order", plans.solve(0), -1);
        Check.due("one by another order", plans.solve(1), 4);
        Check.due("none by the next one", plans.solve(1), -1);
    }

    /** Robot i stays at a door that robot j has to go through: there is a plan only if j comes before i. */
    private static JointPlans inTheWay(int robots, int i, int j) {
        JointPlans plans = Scenes.drawn(robots, "...#.", "#.##.");
        plans.start(i, 1, 0);
        plans.end(i, 1, 0);
        plans.start(j, 0, 0);
        plans.end(j, 2, 0);
        int aside = 0;
        for (int robot = 0; robot < robots; robot++) {
            if (robot != i && robot != j) {
                plans.start(robot, 4, aside);
                plans.end(robot, 4, aside);
                aside++;
            }
        }
        return plans;
    }

    /** The order of the n-th restart from a seed (or from none that was set), as plans tell it. */
    private static String toldOrder(int robots, Integer seed, int n) {
        int[] before = new int[robots];
        for (int i = 0; i < robots; i++) {
            for (int j = i + 1; j < robots; j++) {
                JointPlans plans = inTheWay(robots, i, j);
                if (seed != null) {
                    plans.seed(seed);
                }
                if (n > 1) {
                    plans.solve(n - 1);
                }
                before[plans.solve(1) == 4 ? i : j]++;
            }
        }
        StringBuilder order = new StringBuilder();
        for (int place = 0; place < robots; place++) {
            for (int robot = 0; robot < robots; robot++) {
                if (before[robot] == place) {
                    order.append(robot);
                }
            }
        }
        return order.toString();
    }

    /** The orders of the first restarts from a seed, by the document's words. */
    private static List<String> orders(int robots, long seed, int restarts) {
        List<String> all = new ArrayList<>();
        long x = seed;
        for (int n = 0; n < restarts; n++) {
            char[] order = "0123".substring(0, robots).toCharArray();
            for (int k = 1; k < robots; k++) {
                x = (x * 1103515245L + 12345L) % 2147483648L;
                int other = (int) ((x / 65536L) % (k + 1));
                char kept = order[k];
                order[k] = order[other];
                order[other] = kept;
            }
            all.add(new String(order));
        }
        return all;
    }

    private static void firstOrderFirst() {
        for (int robots = 3; robots <= 4; robots++) {
            for (int i = 0; i < robots; i++) {
                for (int j = 0; j < robots; j++) {
                    if (i != j) {
                        Check.due(j + " behind " + i, inTheWay(robots, i, j).solve(0), j < i ? 4 : -1);
                    }
                }
            }
            onlyByTheLastRestart(robots);
        }
    }

    /** By a seed whose n-th order is the first in which robot 1 comes before robot 0, n restarts are just enough. */
    private static void onlyByTheLastRestart(int robots) {
        for (int seed = 0; seed < 60; seed++) {
            List<String> orders = orders(robots, seed, 5);
            int first = 0;
            while (first < 5 && orders.get(first).indexOf('1') > orders.get(first).indexOf('0')) {
                first++;
            }
            for (int restarts = 0; restarts <= 5; restarts++) {
                JointPlans plans = inTheWay(robots, 0, 1);
                plans.seed(seed);
                String name = "seed " + seed + ", " + restarts + " restarts of " + robots + " robots";
                Check.due(name, plans.solve(restarts), restarts > first ? 4 : -1);
            }
        }
    }

    /**
     * From seed 1, x / 65536 is 16838, 5758, 10113, 17515, 31051, 5627, 23010, 7419, 16212. For three robots: 16838
     * modulo 2 is 0 (1, 0, 2), 5758 modulo 3 is 1 (1, 2, 0); for four robots then 10113 modulo 4 is 1 (1, 3, 0, 2).
     */
    private static void ordersByHand() {
        String[] three = {"120", "021", "012", "201"};
        for (int n = 1; n <= three.length; n++) {
            Check.due("restart " + n + " of three robots", toldOrder(3, 1, n), three[n - 1]);
        }
        String[] four = {"1302", "0213", "3012"};
        for (int n = 1; n <= four.length; n++) {
            Check.due("restart " + n + " of four robots", toldOrder(4, 1, n), four[n - 1]);
        }
    }

    private static void ordersOfManySeeds() {
        for (int robots = 3; robots <= 4; robots++) {
            for (int seed : SEEDS) {
                List<String> orders = orders(robots, seed, 6);
                for (int n = 1; n <= 6; n++) {
                    String name = "restart " + n + " from seed " + seed;
                    Check.due(name, toldOrder(robots, seed, n), orders.get(n - 1));
                }
            }
        }
    }

    /** From 0 the seed becomes 12345; from 2147483647 it becomes 2147483648 - 1103515245 + 12345, so it goes round. */
    private static void seedGoesRound() {
        for (int robots = 3; robots <= 4; robots++) {
            Check.due("1 at first", toldOrder(robots, null, 1), toldOrder(robots, 1, 1));
            Check.due("and on from there", toldOrder(robots, null, 2), orders(robots, 1, 2).get(1));
            for (int back = 0; back < 30; back++) {
                int seed = Integer.MAX_VALUE - back;
                Check.due("seed " + seed, toldOrder(robots, seed, 1), orders(robots, seed, 1).get(0));
            }
        }
    }

    /**
     * Above, robot 1 has to come before robot 0, so that the first order gives no plan; below, two ways cross, and of
     * robots 2 and 3 the later one waits, at the same cost.
     */
    private static void firstOfEqualOnes() {
        for (int seed = 0; seed < 40; seed++) {
            JointPlans plans = Scenes.drawn(4, "bA2###", "#.####", "######", "#c####", "d.4###", "#3####");
            plans.seed(seed);
            int waiting = -1;
            for (String order : orders(4, seed, 5)) {
                if (waiting < 0 && order.indexOf('1') < order.indexOf('0')) {
                    waiting = order.indexOf('2') < order.indexOf('3') ? 3 : 2;
                }
            }
            Check.due("seed " + seed + ": cost", plans.solve(5), waiting < 0 ? -1 : 9);
            if (waiting >= 0) {
                String want = waiting == 3 ? "04 04 14 24" : "04 14 24 24";
                Check.due("seed " + seed + ": the first that has a plan", Scenes.path(plans, 3), want);
            }
        }
        for (int restarts = 0; restarts <= 5; restarts++) {
            JointPlans cross = Scenes.drawn(3, "#b#C", "a.1#", "#2##");
            Check.due("all orders cost the same", cross.solve(restarts), 5);
            Check.due("the first order's plan", Scenes.path(cross, 0), "01 11 21 21");
        }
        JointPlans cheaper = Scenes.drawn(3, ".....", ".###.", "b.A.2", "##.##", "C####");
        Check.due("the first order", cheaper.solve(0), 8);
        Check.due("order 1, 2, 0 costs less", cheaper.solve(1), 6);
        Check.due("the cheaper one's plan", Scenes.path(cheaper, 1), "02 12 22 32 42");
        Check.due("order 0, 2, 1 costs the same as the first", cheaper.solve(1), 8);
        cheaper.seed(1);
        Check.due("the cheapest of six, which is not the last", cheaper.solve(5), 6);
        Check.due("its plan", Scenes.path(cheaper, 1), "02 12 22 32 42");
    }
}
