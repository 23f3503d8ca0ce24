/** The edges of plans: part IV of the terms, and promises 18 to 21. */
public final class PlanEdgesTest {
    private static final int NONE = GaugeWall.NONE;
    private static final int ABOVE = -2;
    private static final Check CHECK = new Check("PlanEdgesTest");

    private static final String ONE = Check.box("a", 3, 1, "s0");
    private static final String TWO = ONE + Check.box("b", 4, 1, "s1");

    public static void main(String[] args) {
        boxesAtMost();
        setsThatAreNone();
        ticksAtTheEdges();
        beyondTheLastTick();
        justWithinTheBudget();
        spentAlready();
        nothingMoreIsNeverAbove();
        downThen();
        downAsToldByNow();
        downNow();
        freshToTheEnd();
        staleByNow();
        askedNowCounts();
        leastWorth();
        fewestLeft();
        firstByWhoIsIn();
        allAreLeft();
        leastCosts();
        leastSetNow();
        leastSetThen();
        refusedPlanStays();
        plannedAtTheEdges();
        noneAtHand();
        followInThePlan();
        followAtTheLastTick();
        followAsAsk();
        CHECK.finish();
    }

    /** Boxes of a source each, all of one worth, fresh for one tick. */
    private static String boxes(int number) {
        StringBuilder text = new StringBuilder();
        for (int k = 0; k < number; k++) {
            text.append(Check.box("b" + k, 1, 1, "s" + k));
        }
        return text.toString();
    }

    private static Run plan(Run run, int set, int costs, int left, int... sets) {
        run.due("plan(" + set + ", " + sets.length + ")", costs).due("left()", left);
        for (int i = 0; i < sets.length; i++) {
            run.due("planned(" + i + ")", sets[i]);
        }
        return run.due("planned(" + sets.length + ")", NONE);
    }

    // "A PLAN for some BOXES (4 at most)"
    private static void boxesAtMost() {
        Run run = new Run(CHECK, "4 at most", boxes(6)).refused("plan(31, 1)", NONE).refused("plan(63, 1)", NONE)
            .refused("plan(62, 1)", NONE).due("left()", NONE);
        plan(run, 15, 4, 0, 15);
        plan(run, 60, 4, 0, 60);
        plan(run, 32, 1, 0, 32);
        run.refused("plan(47, 1)", NONE).refused("plan(63, 10)", NONE).due("planned(0)", 32).end();
    }

    // "no such set (a BOX that is not there, none, more than 4)"
    private static void setsThatAreNone() {
        for (String set : new String[] {"0", "8", "9", "15", "16", "64", "-1", "-8", "MOST", "LEAST"}) {
            Run.busy(CHECK, "no such set").refused("plan(" + set + ", 1)", NONE).end();
        }
        Run.busy(CHECK, "all that are there").due("plan(7, 1)", 6).due("left()", 0).due("planned(0)", 15).end();
        new Run(CHECK, "no boxes", "let a=1;").refused("plan(0, 1)", NONE).refused("plan(1, 1)", NONE).end();
        plan(new Run(CHECK, "the last of six", boxes(6)).refused("plan(64, 1)", NONE), 32, 1, 0, 32).end();
    }

    // "h TICKS (1 .. 10)"
    private static void ticksAtTheEdges() {
        for (String h : new String[] {"0", "11", "-1", "MOST", "LEAST"}) {
            Run.busy(CHECK, "h TICKS").refused("plan(7, " + h + ")", NONE).end();
        }
        plan(new Run(CHECK, "1 TICK", ONE), 1, 1, 0, 1).end();
        plan(new Run(CHECK, "10 TICKS", ONE), 1, 5, 0, 1, 0, 1, 0, 1, 0, 1, 0, 1, 0).end();
        String six = Check.box("a", 1, 6, "s0") + Check.box("b", 1, 6, "s1") + Check.box("c", 1, 6, "s2")
            + Check.box("d", 1, 6, "s3");
        plan(new Run(CHECK, "10 TICKS of 4 boxes", six), 15, 8, 0, 15, 0, 0, 0, 0, 0, 0, 15, 0, 0).end();
    }

    // "NONE, and nothing happens: .. beyond TICK 399"
    private static void beyondTheLastTick() {
        Run run = new Run(CHECK, "up to 399", ONE).repeat(390, "tick()").due("plan(1, 10)", 5).due("planned(9)", 0)
            .due("tick()", 391).refused("plan(1, 10)", NONE).due("plan(1, 9)", 5).due("planned(8)", 1);
        run.calls("tick()", "tick()", "tick()", "tick()", "tick()", "tick()", "tick()").due("count(2)", 398)
            .refused("plan(1, 3)", NONE).due("plan(1, 2)", 1).due("tick()", 399).refused("plan(1, 2)", NONE)
            .refused("plan(1, 10)", NONE).due("planned(1)", 0).due("plan(1, 1)", 1).due("planned(0)", 1).due("left()", 0)
            .due("follow()", 1).end();
    }

    // "in each TICK at most the BUDGET"
    private static void justWithinTheBudget() {
        Run run = new Run(CHECK, "at most the budget", TWO).calls("cost(0, 4)", "cost(1, 5)", "budget(9)");
        plan(run, 3, 9 + 9, 0, 3, 0, 3);
        run.calls("budget(8)");
        plan(run, 3, 10, 1, 2, 0, 2);
        run.calls("budget(5)");
        plan(run, 2, 5, 0, 2);
        run.calls("budget(4)");
        plan(run, 2, 0, 2, 0);
        plan(run, 3, 4, 2, 1);
        run.calls("budget(3)");
        plan(run, 3, 0, 3, 0);
        run.calls("budget(0)");
        plan(run, 3, 0, 3, 0).end();
        // As dear as a tick can be, in all ten of them.
        Run dear = new Run(CHECK, "54 in a tick", Check.box("a", 9, 1, "s0+s1+s2+s3+s4+s5"));
        for (int s = 0; s < 6; s++) {
            dear.calls("cost(" + s + ", 9)");
        }
        dear.calls("budget(54)");
        plan(dear, 1, 5 * 54, 0, 63, 0, 63, 0, 63, 0, 63, 0, 63, 0);
        dear.calls("budget(53)");
        plan(dear, 1, 0, 1, 0, 0, 0, 0, 0, 0, 0, 0, 0, 0).end();
    }

    // "now: with what is spent already"
    private static void spentAlready() {
        Run run = new Run(CHECK, "spent already", TWO).calls("cost(0, 4)", "cost(5, 3)", "ask(32)", "budget(7)");
        plan(run, 1, 4, 0, 1);
        run.calls("budget(6)");
        plan(run, 1, 0, 1, 0);
        // Spent now is not spent in the next tick.
        run.calls("tick()");
        plan(run, 1, 4, 0, 1).end();
        Run later = new Run(CHECK, "spent now only", Check.box("a", 3, 2, "s0")).calls("cost(0, 4)", "cost(5, 3)", "ask(1)",
            "tick()", "ask(32)", "budget(6)");
        plan(later, 1, 4, 0, 0, 0, 1).end();
    }

    // "asking nothing more is never above it"
    private static void nothingMoreIsNeverAbove() {
        Run run = new Run(CHECK, "nothing more", TWO).calls("cost(0, 9)", "ask(1)", "budget(0)");
        plan(run, 1, 0, 0, 0);
        plan(run, 1, 0, 0, 0, 0);
        plan(run, 1, 0, 1, 0, 0, 0);
        plan(run, 3, 0, 2, 0);
        run.calls("budget(9)");
        plan(run, 3, 0, 2, 0);
        run.calls("budget(10)");
        plan(run, 3, 1, 0, 2).end();
    }

    // "a SOURCE that is DOWN then .. is not asked"
    private static void downThen() {
        // It is renewed in 0 and fresh up to 2: the downs leave only one of the ticks 1 to 3.
        String box = Check.box("a", 3, 2, "s0");
        Run first = new Run(CHECK, "down but in 1", box).calls("ask(1)", "down(0, 2, 4)");
        plan(first, 1, 1, 0, 0, 1, 0, 0).end();
        Run second = new Run(CHECK, "down but in 2", box).calls("ask(1)", "down(0, 1, 2)", "down(0, 3, 4)");
        plan(second, 1, 1, 0, 0, 0, 1, 0).end();
        Run third = new Run(CHECK, "down but in 3", box).calls("ask(1)", "down(0, 1, 3)");
        plan(third, 1, 1, 0, 0, 0, 0, 1).end();
        Run none = new Run(CHECK, "down in all three", box).calls("ask(1)", "down(0, 1, 4)");
        plan(none, 1, 0, 0, 0, 0, 0);
        plan(none, 1, 0, 1, 0, 0, 0, 0).end();
    }

    // "(as told by now)"
    private static void downAsToldByNow() {
        Run run = new Run(CHECK, "as told by now", ONE);
        plan(run, 1, 2, 0, 1, 0, 1);
        run.calls("down(0, 2, 3)").due("planned(2)", 1);
        plan(run, 1, 2, 0, 1, 1, 0);
        run.calls("down(0, 1, 2)");
        plan(run, 1, 0, 1, 0, 0, 0).end();
    }

    // "a SOURCE that is DOWN then", when that is now
    private static void downNow() {
        Run run = new Run(CHECK, "down now", ONE).calls("down(0, 0, 1)");
        plan(run, 1, 0, 1, 0);
        run.calls("tick()");
        plan(run, 1, 1, 0, 1).end();
        // What is asked and down is not renewed by that; what was renewed ahead of the telling is.
        plan(new Run(CHECK, "asked while down", ONE).calls("down(0, 0, 1)", "ask(1)"), 1, 0, 1, 0).end();
        plan(new Run(CHECK, "down told late", ONE).calls("ask(1)", "down(0, 0, 1)"), 1, 0, 0, 0).end();
    }

    // "not STALE at any end of these TICKS (at the end of the last one, too)"
    private static void freshToTheEnd() {
        for (int fresh = 1; fresh <= 6; fresh++) {
            Run run = new Run(CHECK, "fresh " + fresh, Check.box("a", 3, fresh, "s0")).calls("ask(1)");
            int[] within = new int[fresh + 1];
            plan(run, 1, 0, 0, within);
            int[] beyond = new int[fresh + 2];
            beyond[fresh + 1] = 1;
            plan(run, 1, 1, 0, beyond);
            run.calls("tick()");
            plan(run, 1, 0, 0, new int[fresh]);
            int[] then = new int[fresh + 1];
            then[fresh] = 1;
            plan(run, 1, 1, 0, then).end();
        }
    }

    // "not STALE at any end of these TICKS", the first one's too
    private static void staleByNow() {
        Run run = new Run(CHECK, "stale by now", Check.box("a", 3, 2, "s0")).calls("ask(1)", "tick()", "tick()");
        plan(run, 1, 0, 0, 0);
        plan(run, 1, 1, 0, 0, 1);
        run.calls("tick()");
        plan(run, 1, 1, 0, 1);
        run.calls("budget(0)");
        plan(run, 1, 0, 1, 0).end();
        for (int age = 3; age <= 12; age++) {
            Run old = new Run(CHECK, "stale for long", Check.box("a", 3, 2, "s0")).calls("ask(1)").repeat(age, "tick()");
            plan(old, 1, 1, 0, 1, 0, 0);
            plan(old, 1, 2, 0, 1, 0, 0, 1);
            old.calls("down(0, " + age + ", " + (age + 1) + ")");
            plan(old, 1, 0, 1, 0, 0, 0).end();
        }
        // One that is stale for long beside one that was renewed just now.
        String text = Check.box("a", 3, 1, "s0") + Check.box("b", 3, 6, "s1") + Check.box("c", 3, 3, "s2");
        for (int age = 2; age <= 9; age++) {
            Run beside = new Run(CHECK, "stale beside fresh", text).calls("ask(1)").repeat(age, "tick()").calls("ask(6)");
            plan(beside, 3, 2, 0, 1, 0, 1);
            plan(beside, 7, 2, 0, 1, 0, 1).end();
        }
    }

    // "What is asked now already counts for now."
    private static void askedNowCounts() {
        Run run = new Run(CHECK, "asked now", Check.box("a", 3, 1, "s0+s1")).calls("cost(0, 5)", "cost(1, 2)", "ask(1)");
        plan(run, 1, 2, 0, 2);
        plan(run, 1, 2 + 7, 0, 2, 0, 3);
        run.calls("tick()");
        plan(run, 1, 7, 0, 3).end();
        // Asked ahead of the text, it is not asked once more.
        Run again = new Run(CHECK, "asked ahead of the text", ONE).calls("ask(1)").text(ONE);
        plan(again, 1, 0, 0, 0);
        again.due("follow()", 1).due("count(4)", 1).end();
    }

    // "those with the least worth together by which there is a PLAN"
    private static void leastWorth() {
        for (int worth = 5; worth <= 7; worth++) {
            // Leaving c makes room for a and b, whose worth is 6 together.
            Run run = new Run(CHECK, "worth " + worth, Check.box("a", 3, 1, "s0") + Check.box("b", 3, 1, "s1")
                + Check.box("c", worth, 1, "s2")).calls("cost(2, 2)", "budget(2)");
            plan(run, 7, 2, worth == 7 ? 3 : 4, worth == 7 ? 4 : 3).end();
        }
        String most = Check.box("a", 1000, 1, "s0") + Check.box("b", 1000, 1, "s1") + Check.box("c", 1000, 1, "s2")
            + Check.box("d", 999, 1, "s3");
        plan(new Run(CHECK, "the most worth", most).calls("budget(3)"), 15, 3, 8, 7).end();
    }

    // "of these the fewest"
    private static void fewestLeft() {
        String noWorth = Check.box("a", 0, 1, "s0") + Check.box("b", 0, 1, "s1") + Check.box("c", 0, 1, "s2");
        Run run = new Run(CHECK, "of no worth", noWorth).calls("cost(2, 2)", "budget(4)");
        plan(run, 7, 4, 0, 7);
        run.calls("budget(3)");
        plan(run, 7, 3, 1, 6);
        run.calls("budget(2)");
        plan(run, 7, 2, 4, 3);
        run.calls("budget(1)");
        plan(run, 7, 1, 5, 2).end();
        // a and b together are worth as much as c.
        String even = Check.box("a", 2, 1, "s0") + Check.box("b", 2, 1, "s1") + Check.box("c", 4, 1, "s2");
        plan(new Run(CHECK, "one of as much worth", even).calls("cost(2, 2)", "budget(2)"), 7, 2, 4, 3).end();
    }

    // "the first by who is in (the least BOX that is not in both)"
    private static void firstByWhoIsIn() {
        Run run = new Run(CHECK, "who is in", boxes(4)).calls("budget(3)");
        plan(run, 15, 3, 1, 14);
        run.calls("budget(2)");
        plan(run, 15, 2, 3, 12);
        run.calls("budget(1)");
        plan(run, 15, 1, 7, 8).end();
        // Only a with d, or b with c, can be left: as bits 6 is less than 9, but a is in 9.
        String pairs = Check.box("a", 3, 1, "s0") + Check.box("b", 3, 1, "s1+s2") + Check.box("c", 3, 1, "s1+s3")
            + Check.box("d", 3, 1, "s0+s4");
        Run two = new Run(CHECK, "a with d, or b with c", pairs).calls("cost(0, 2)", "budget(3)");
        plan(two, 15, 3, 9, 14);
        // Boxes that are not planned are never left.
        plan(new Run(CHECK, "of the set alone", boxes(6)).calls("budget(1)"), 40, 1, 8, 32).end();
        two.end();
    }

    // "unless it is LEFT": all of them can be
    private static void allAreLeft() {
        Run run = new Run(CHECK, "all are left", boxes(4)).calls("budget(0)");
        plan(run, 15, 0, 15, 0, 0, 0, 0, 0, 0, 0, 0, 0, 0).due("follow()", 0).due("count(8)", 4).end();
    }

    // "the least COSTS together (of what is asked more)"
    private static void leastCosts() {
        // Renewing b a tick early, with a, is 1 more than not; s0 once more would be 5.
        String text = Check.box("a", 1, 2, "s0") + Check.box("b", 1, 3, "s0+s1");
        Run run = new Run(CHECK, "least costs", text).calls("cost(0, 5)");
        plan(run, 3, 6 + 5, 0, 3, 0, 0, 1);
        plan(run, 3, 6 + 6, 0, 3, 0, 0, 3, 0);
        run.calls("ask(1)");
        plan(run, 3, 1 + 6, 0, 2, 0, 0, 3, 0).end();
    }

    // "the least set (as bits) now"
    private static void leastSetNow() {
        Run run = new Run(CHECK, "the least set now", TWO).calls("ask(3)", "tick()");
        plan(run, 3, 2, 0, 0, 3);
        run.calls("budget(1)");
        plan(run, 3, 2, 0, 1, 2);
        run.calls("down(0, 2, 3)", "budget(2)");
        plan(run, 3, 2, 0, 1, 2).end();
        // What is asked already is no part of the set.
        Run asked = new Run(CHECK, "what is asked more", Check.box("a", 3, 1, "s0+s5")).calls("ask(32)");
        plan(asked, 1, 1, 0, 1).end();
    }

    // "then in the next TICK, and so on"
    private static void leastSetThen() {
        String text = Check.box("a", 5, 2, "s0") + Check.box("b", 5, 2, "s1") + Check.box("c", 4, 2, "s2");
        Run run = new Run(CHECK, "and so on", text).calls("ask(7)", "budget(1)");
        plan(run, 7, 3, 0, 0, 1, 2, 4);
        run.calls("budget(2)");
        plan(run, 7, 3, 0, 0, 0, 1, 6);
        run.calls("budget(3)");
        plan(run, 7, 3, 0, 0, 0, 0, 7).end();
    }

    // "NONE, and nothing happens": the plan at hand stays.
    private static void refusedPlanStays() {
        Run run = new Run(CHECK, "the plan stays", TWO).calls("budget(1)");
        plan(run, 3, 1, 1, 2);
        run.refused("plan(4, 1)", NONE).refused("plan(0, 1)", NONE).refused("plan(3, 0)", NONE)
            .refused("plan(3, 11)", NONE).due("left()", 1).due("planned(0)", 2).due("planned(1)", NONE)
            .due("follow()", 1).end();
    }

    // "the set for its i-th TICK; NONE: there is none such"
    private static void plannedAtTheEdges() {
        new Run(CHECK, "planned", ONE).due("plan(1, 10)", 5).due("planned(0)", 1).due("planned(8)", 1)
            .due("planned(9)", 0).due("planned(10)", NONE).due("planned(-1)", NONE).due("planned(MOST)", NONE)
            .due("planned(LEAST)", NONE).due("plan(1, 1)", 1).due("planned(0)", 1).due("planned(1)", NONE)
            .due("planned(8)", NONE).calls("tick()", "tick()").due("planned(0)", 1).due("left()", 0).end();
    }

    // "NONE: none is at hand"
    private static void noneAtHand() {
        new Run(CHECK, "none at hand", ONE).due("planned(0)", NONE).due("left()", NONE).refused("follow()", NONE)
            .refused("plan(2, 1)", NONE).due("left()", NONE).due("plan(1, 2)", 1).due("left()", 0).text(ONE)
            .due("planned(0)", NONE).due("left()", NONE).refused("follow()", NONE).due("count(6)", 0).end();
        new Run(CHECK, "stays behind a fault", ONE).due("plan(1, 2)", 1).fault("let", 1, 3).due("left()", 0)
            .due("planned(0)", 1).due("follow()", 1).end();
    }

    // "NONE, and nothing happens: .. now is not in it"
    private static void followInThePlan() {
        Run run = new Run(CHECK, "in it", ONE);
        plan(run, 1, 2, 0, 1, 0, 1);
        run.due("follow()", 1).due("follow()", 0).due("tick()", 1).due("follow()", 0).due("count(6)", 0)
            .due("tick()", 2).due("follow()", 1).due("count(6)", 1).due("tick()", 3).refused("follow()", NONE)
            .due("count(6)", 0).due("count(5)", 2).due("left()", 0).end();
        new Run(CHECK, "of one tick", ONE).due("plan(1, 1)", 1).due("tick()", 1).refused("follow()", NONE).end();
        new Run(CHECK, "of ten ticks", ONE).due("plan(1, 10)", 5).repeat(9, "tick()").due("follow()", 0)
            .due("tick()", 10).refused("follow()", NONE).end();
        new Run(CHECK, "begun later", ONE).calls("tick()", "tick()").due("plan(1, 2)", 1).due("follow()", 1)
            .due("tick()", 3).due("follow()", 0).due("tick()", 4).refused("follow()", NONE).end();
    }

    // "What the PLAN at hand says for now", when now is the last TICK
    private static void followAtTheLastTick() {
        new Run(CHECK, "at the last tick", ONE).repeat(398, "tick()").calls("plan(1, 2)", "tick()").due("follow()", 0)
            .refused("tick()", NONE).due("follow()", 0).due("plan(1, 1)", 1).due("follow()", 1).due("count(5)", 1).end();
    }

    // "as ask()": -2 too
    private static void followAsAsk() {
        new Run(CHECK, "as ask()", Check.box("a", 3, 1, "s0+s1")).due("plan(1, 2)", 2).calls("budget(1)")
            .refused("follow()", ABOVE).due("count(6)", 0).due("ask(2)", 0).refused("follow()", ABOVE).calls("budget(2)")
            .due("follow()", 1).due("count(6)", 3).calls("budget(0)").due("follow()", 0).due("tick()", 1)
            .due("follow()", 0).end();
        new Run(CHECK, "as ask() of what is down", ONE).due("plan(1, 1)", 1).calls("down(0, 0, 1)").due("follow()", 0)
            .due("count(4)", 1).due("box(0, 6)", NONE).end();
    }
}
