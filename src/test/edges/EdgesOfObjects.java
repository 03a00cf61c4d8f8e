/** Boundary cases of 'What it is' and of 'Not promised': an object as a whole, and its last calls. */
final class EdgesOfObjects {
    private static final int MOST_CALLS = 512;

    private EdgesOfObjects() {
    }

    static void run() {
        Sentences.section("What it is");
        Sentences.holds("Joint plans of a few robots on a grid with walls:", EdgesOfObjects::oneMakesRoomForTheOther);
        Sentences.holds("at least cost exactly for two at most,", EdgesOfObjects::exactForTwoAtMost);
        Sentences.holds("else one robot behind the other by priorities,", EdgesOfObjects::dearerByPriorities);
        Sentences.holds("anew with other priorities by a seed;", EdgesOfObjects::cheaperByOtherPriorities);
        Sentences.holds("plans as rows in time, bounds, ends and waits.", EdgesOfObjects::rowsBoundsEndsWaits);
        Sentences.holds("An object is used for at most 512 calls after it has been made;", EdgesOfObjects::calls512);
        Sentences.holds("what later calls answer is free.", EdgesOfObjects::laterCallsEnd);

        Sentences.section("Not promised");
        Sentences.holds("Nothing is promised beyond the answers and state changes described above",
            EdgesOfObjects::askingChangesNothing);
        Sentences.holds("How the state is held inside the object is free", EdgesOfObjects::eachObjectItsOwnState);
    }

    private static void oneMakesRoomForTheOther() {
        JointPlans plans = Scenes.drawn(2, "aB1", "#.#");
        Check.due("cost", plans.solve(0), 4);
        Check.due("robot 0 goes through", Scenes.path(plans, 0), "00 10 20");
        Check.due("robot 1 makes room and comes back", Scenes.path(plans, 1), "10 11 10");
        Check.due("with a wall more there is no room", Scenes.drawn(2, "aB1", "###").solve(0), -1);
    }

    private static void exactForTwoAtMost() {
        for (int robots = 0; robots <= 4; robots++) {
            JointPlans plans = Scenes.drawn(robots, "abcd", "1234");
            Check.due("cost", plans.solve(0), robots);
            Check.due("exact for " + robots, plans.exact(), robots <= 2);
        }
    }

    /** Robot 0 goes first and so stays at its end, in the way of robot 1; jointly it makes room. */
    private static void dearerByPriorities() {
        JointPlans two = Scenes.drawn(2, "bA2", "#.#");
        Check.due("jointly", two.solve(0), 4);
        JointPlans three = Scenes.drawn(3, "bA2#C", "#.###");
        Check.due("by priorities", three.solve(0), -1);
        Check.due("by priorities with others", three.solve(5), 4);
        Check.due("the other way round", Scenes.drawn(3, "aB1#C", "#.###").solve(0), 4);
    }

    private static JointPlans dearByTheFirstOrder() {
        JointPlans plans = Scenes.drawn(3, "1b.c", "#.a#");
        plans.end(1, 3, 0);
        plans.end(2, 2, 1);
        return plans;
    }

    private static void cheaperByOtherPriorities() {
        JointPlans plans = dearByTheFirstOrder();
        Check.due("by 0, 1, 2", plans.solve(0), 12);
        Check.due("with five orders more", plans.solve(5), 8);
        JointPlans again = dearByTheFirstOrder();
        again.seed(1);
        Check.due("with the seed told", again.solve(5), 8);
        Check.due("the same plan", Scenes.plan(again), Scenes.plan(plans));
    }

    private static void rowsBoundsEndsWaits() {
        JointPlans plans = Scenes.drawn(2, "#b#", "a.1", "#2#");
        Check.due("cost", plans.solve(0), 5);
        Check.due("the row of robot 0, which waits", Scenes.path(plans, 0), "01 01 11 21");
        Check.due("the row of robot 1, which waits at its end", Scenes.path(plans, 1), "10 11 12 12");
        Check.due("bound", plans.bound(), 4);
        Check.due("at the end later", plans.at(0, Integer.MAX_VALUE, 0), 2);
    }

    /** All kinds of calls, drawn, each compared with NaivePlans, up to the last one that is promised. */
    private static void calls512() {
        for (int run = 10000; run < 10020; run++) {
            DrawnRun drawn = new DrawnRun(run);
            for (int i = 0; i < 100 && drawn.calls() < DrawnRun.MOST_CALLS; i++) {
                drawn.go();
            }
            Check.due("calls", drawn.calls(), DrawnRun.MOST_CALLS);
        }
        for (int robots = 0; robots <= 4; robots++) {
            JointPlans plans = Scenes.drawn(robots, "abcd..", "......", "......", "......", "......", "..4321");
            int first = plans.solve(0);
            for (int call = 2 + 2 * robots; call < DrawnRun.MOST_CALLS - 1; call++) {
                Check.due("solve again", plans.solve(0), first);
            }
            Check.due("the 512th call", plans.count(4), first);
        }
    }

    private static void laterCallsEnd() {
        for (int robots = 0; robots <= 4; robots++) {
            JointPlans plans = Scenes.drawn(robots, "abcd..", "......", "..4321");
            for (int call = 0; call < 2 * DrawnRun.MOST_CALLS; call++) {
                Check.due("it ends", Check.answer(() -> plans.solve(0)) != null, true);
            }
        }
    }

    /** Two objects alike stay so if one is asked for all that it tells, also by wrong arguments. */
    private static void askingChangesNothing() {
        for (int robots = 0; robots <= 4; robots++) {
            JointPlans asked = Scenes.drawn(robots, "a..4", ".#c.", "2.d.", "b.31");
            JointPlans left = Scenes.drawn(robots, "a..4", ".#c.", "2.d.", "b.31");
            for (int restarts = 0; restarts <= 5; restarts++) {
                ask(asked);
                Check.due("solve(" + restarts + ")", asked.solve(restarts), left.solve(restarts));
                ask(asked);
                Check.due("all that is told", Scenes.state(asked), Scenes.state(left));
            }
        }
    }

    private static void ask(JointPlans plans) {
        for (int i = -1; i <= 5; i++) {
            int n = i;
            Check.answer(() -> plans.at(n, 0, 0));
            Check.answer(() -> plans.at(0, n, 1));
            Check.answer(() -> plans.at(0, 0, n));
            Check.answer(() -> plans.alone(n));
            Check.answer(() -> plans.count(n));
        }
        Check.answer(plans::exact);
        Check.answer(plans::last);
        Check.answer(plans::bound);
        Check.answer(plans::share);
    }

    private static void eachObjectItsOwnState() {
        JointPlans one = dearByTheFirstOrder();
        JointPlans same = dearByTheFirstOrder();
        one.solve(1);
        same.solve(1);
        JointPlans other = new JointPlans(3);
        other.seed(99);
        other.swap(false);
        Scenes.draw(other, "abc.", "####", "123.");
        Check.due("the other one", other.solve(5), -1);
        Check.due("the first one's state", Scenes.state(one), Scenes.state(same));
        for (int restarts = 0; restarts <= 5; restarts++) {
            other.solve(restarts);
            Check.due("the first one's seed", one.solve(restarts), same.solve(restarts));
            Check.due("the first one's plan", Scenes.plan(one), Scenes.plan(same));
        }
        Check.due("its grid", one.count(2), 2);
        Check.due("its rule for swaps", one.swap(true), true);
    }
}
