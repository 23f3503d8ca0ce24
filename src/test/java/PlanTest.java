/** Promises 18 to 21: plans, what they say, whom they leave, and following them. */
public final class PlanTest {
    private static final int NONE = GaugeWall.NONE;
    private static final Check CHECK = new Check("PlanTest");

    public static void main(String[] args) {
        refused();
        longest();
        askedAndSpentCount();
        budgetBelowTheSpent();
        cheaperTogether();
        leastSetsFirst();
        earlyForTheBudget();
        earlyForTheDown();
        downNow();
        freshFromBefore();
        leastWorth();
        fewestOfNoWorth();
        firstByWhoIsIn();
        staysAtHand();
        following();
        followingAboveTheBudget();
        CHECK.finish();
    }

    private static void duePlan(GaugeWall x, int set, int h, int costs, int left, int... sets) {
        String call = "plan(" + set + ", " + h + ")";
        CHECK.due(call, x.plan(set, h), costs);
        CHECK.due("left() of " + call, x.left(), left);
        for (int i = 0; i < h; i++) {
            CHECK.due("planned(" + i + ") of " + call, x.planned(i), sets[i]);
        }
        CHECK.due("planned(" + h + ") of " + call, x.planned(h), NONE);
        CHECK.due("planned(-1) of " + call, x.planned(-1), NONE);
    }

    private static String boxes(int n) {
        StringBuilder text = new StringBuilder();
        for (int k = 0; k < n; k++) {
            text.append(Check.box("b" + k, 1, 1, "s" + k));
        }
        return text.toString();
    }

    private static void refused() {
        GaugeWall x = Check.wallOf(boxes(5));
        int[][] wrong = {{0, 1}, {-1, 1}, {32, 1}, {33, 1}, {31, 1}, {1, 0}, {1, 11}, {1, -1},
            {1, Integer.MAX_VALUE}, {1, Integer.MIN_VALUE}, {Integer.MIN_VALUE, 1}};
        for (int[] call : wrong) {
            CHECK.due("plan(" + call[0] + ", " + call[1] + ")", x.plan(call[0], call[1]), NONE);
            CHECK.due("left()", x.left(), NONE);
        }
        duePlan(x, 30, 1, 4, 0, 30);
        duePlan(x, 15, 2, 4, 0, 15, 0);
        CHECK.due("plan(31, 1)", x.plan(31, 1), NONE);
        CHECK.due("the plan stays", x.planned(0), 15);
        GaugeWall late = Check.wallOf(boxes(1));
        Check.ticks(late, 390);
        CHECK.due("plan(1, 10) in 390", late.plan(1, 10), 5);
        late.tick();
        CHECK.due("plan(1, 10) in 391", late.plan(1, 10), NONE);
        CHECK.due("plan(1, 9) in 391", late.plan(1, 9), 5);
    }

    private static void longest() {
        GaugeWall x = Check.wallOf(Check.box("a", 1, 1, "s0") + Check.box("b", 1, 2, "s1")
            + Check.box("c", 1, 6, "s2") + Check.box("d", 1, 5, "s3"));
        duePlan(x, 15, 10, 5 + 4 + 2 + 2, 0, 15, 0, 1, 2, 1, 0, 11, 4, 1, 2);
    }

    private static void askedAndSpentCount() {
        GaugeWall x = Check.wallOf(Check.box("a", 3, 1, "s0+s1") + Check.box("b", 2, 1, "s2"));
        x.cost(0, 4);
        x.cost(1, 3);
        x.cost(2, 2);
        x.budget(8);
        duePlan(x, 3, 1, 7, 2, 3);
        x.ask(1);
        duePlan(x, 3, 1, 3, 2, 2);
        x.budget(9);
        duePlan(x, 3, 1, 5, 0, 6);
        x.ask(2);
        duePlan(x, 1, 2, 0, 0, 0, 0);
        duePlan(x, 1, 3, 7, 0, 0, 0, 3);
    }

    private static void budgetBelowTheSpent() {
        GaugeWall x = Check.wallOf(Check.box("a", 3, 1, "s0") + Check.box("b", 2, 1, "s1"));
        x.cost(0, 9);
        x.ask(1);
        x.budget(5);
        duePlan(x, 1, 2, 0, 0, 0, 0);
        duePlan(x, 3, 1, 0, 2, 0);
        duePlan(x, 3, 3, 0, 3, 0, 0, 0);
    }

    private static void cheaperTogether() {
        // a is due in 3, b in 4: renewing b with a, a tick ahead, saves s0 once.
        GaugeWall x = Check.wallOf(Check.box("a", 1, 2, "s0") + Check.box("b", 1, 3, "s0+s1"));
        x.cost(0, 5);
        duePlan(x, 3, 4, 6 + 5, 0, 3, 0, 0, 1);
        duePlan(x, 3, 5, 6 + 6, 0, 3, 0, 0, 3, 0);
    }

    private static void leastSetsFirst() {
        // Both orders of the two asks cost the same: the one with less now is the plan.
        GaugeWall x = Check.wallOf(Check.box("a", 1, 1, "s0") + Check.box("b", 1, 1, "s1"));
        x.ask(3);
        x.tick();
        x.budget(1);
        duePlan(x, 3, 2, 2, 0, 1, 2);
        x.budget(2);
        duePlan(x, 3, 2, 2, 0, 0, 3);
    }

    private static void earlyForTheBudget() {
        GaugeWall x = Check.wallOf(Check.box("a", 5, 2, "s0") + Check.box("b", 5, 2, "s1") + Check.box("c", 4, 2, "s2"));
        x.ask(7);
        x.budget(1);
        duePlan(x, 7, 4, 3, 0, 0, 1, 2, 4);
        x.tick();
        x.tick();
        duePlan(x, 7, 2, 2, 4, 1, 2);
    }

    private static void earlyForTheDown() {
        GaugeWall x = Check.wallOf(Check.box("a", 5, 3, "s0"));
        x.ask(1);
        x.down(0, 3, 6);
        duePlan(x, 1, 6, 1, 0, 0, 0, 1, 0, 0, 0);
        duePlan(x, 1, 7, 2, 0, 0, 0, 1, 0, 0, 0, 1);
        x.down(0, 2, 3);
        duePlan(x, 1, 5, 1, 0, 0, 1, 0, 0, 0);
        duePlan(x, 1, 6, 0, 1, 0, 0, 0, 0, 0, 0);
    }

    private static void downNow() {
        GaugeWall x = Check.wallOf(Check.box("a", 5, 2, "s0+s1") + Check.box("b", 5, 1, "s1"));
        x.ask(1);
        x.down(0, 0, 1);
        duePlan(x, 1, 1, 0, 1, 0);
        duePlan(x, 3, 2, 1, 1, 2, 0);
        // What was renewed ahead of the telling stays so.
        x.tick();
        x.ask(3);
        x.down(1, 1, 3);
        duePlan(x, 3, 2, 0, 0, 0, 0);
        duePlan(x, 3, 3, 1, 0, 0, 0, 2);
    }

    private static void freshFromBefore() {
        GaugeWall x = Check.wallOf(Check.box("a", 1, 3, "s0"));
        x.ask(1);
        Check.ticks(x, 2);
        duePlan(x, 1, 2, 0, 0, 0, 0);
        duePlan(x, 1, 3, 1, 0, 0, 0, 1);
        Check.ticks(x, 2);
        duePlan(x, 1, 3, 1, 0, 1, 0, 0);
    }

    private static void leastWorth() {
        GaugeWall x = Check.wallOf(Check.box("a", 5, 1, "s0") + Check.box("b", 2, 1, "s1") + Check.box("c", 2, 1, "s2"));
        x.cost(0, 4);
        x.cost(1, 2);
        x.cost(2, 2);
        x.budget(5);
        duePlan(x, 7, 1, 4, 6, 1);
        x.budget(6);
        duePlan(x, 7, 1, 6, 2, 5);
        x.budget(7);
        duePlan(x, 7, 1, 6, 2, 5);
        x.budget(3);
        duePlan(x, 7, 1, 2, 3, 4);
        x.budget(1);
        duePlan(x, 7, 1, 0, 7, 0);
        x.budget(8);
        duePlan(x, 7, 1, 8, 0, 7);
    }

    private static void fewestOfNoWorth() {
        GaugeWall x = Check.wallOf(Check.box("a", 0, 1, "s0") + Check.box("b", 0, 1, "s1") + Check.box("c", 0, 1, "s2"));
        x.cost(0, 1);
        x.cost(1, 1);
        x.cost(2, 2);
        x.budget(2);
        // Without c there is a plan; leaving a alone or b alone gives none.
        duePlan(x, 7, 1, 2, 4, 3);
        x.budget(4);
        duePlan(x, 7, 1, 4, 0, 7);
    }

    private static void firstByWhoIsIn() {
        GaugeWall x = Check.wallOf(Check.box("a", 3, 1, "s0") + Check.box("b", 3, 1, "s1")
            + Check.box("c", 3, 1, "s2") + Check.box("d", 3, 1, "s3"));
        x.budget(3);
        duePlan(x, 15, 1, 3, 1, 14);
        x.budget(2);
        duePlan(x, 15, 1, 2, 3, 12);
        x.budget(1);
        duePlan(x, 15, 1, 1, 7, 8);
        // b and c, or a and d: a is the least that is not in both.
        GaugeWall y = Check.wallOf(Check.box("a", 3, 1, "s0+s1") + Check.box("b", 3, 1, "s2+s3")
            + Check.box("c", 3, 1, "s2+s4") + Check.box("d", 3, 1, "s0+s5"));
        y.budget(3);
        duePlan(y, 15, 1, 3, 9, 4 + 8 + 16);
    }

    private static void staysAtHand() {
        GaugeWall x = Check.wallOf(Check.box("a", 3, 1, "s0"));
        CHECK.due("plan(1, 3)", x.plan(1, 3), 2);
        x.cost(0, 9);
        x.budget(0);
        x.down(0, 0, 9);
        x.tick();
        CHECK.due("planned(0)", x.planned(0), 1);
        CHECK.due("planned(1)", x.planned(1), 0);
        CHECK.due("planned(2)", x.planned(2), 1);
        CHECK.due("planned(most)", x.planned(Integer.MAX_VALUE), NONE);
        CHECK.due("left()", x.left(), 0);
        CHECK.due("plan(1, 3) anew", x.plan(1, 3), 0);
        CHECK.due("left()", x.left(), 1);
        CHECK.due("planned(0)", x.planned(0), 0);
    }

    private static void following() {
        GaugeWall x = Check.wallOf(Check.box("a", 3, 1, "s0") + Check.box("b", 3, 3, "s0+s1"));
        CHECK.due("follow() without a plan", x.follow(), NONE);
        CHECK.due("plan(3, 3)", x.plan(3, 3), 3);
        int[] renewed = {2, 0, 1};
        for (int t = 0; t < renewed.length; t++) {
            CHECK.due("follow() in " + t, x.follow(), renewed[t]);
            CHECK.due("follow() again in " + t, x.follow(), 0);
            CHECK.due("stale boxes", x.count(8), 0);
            x.tick();
        }
        CHECK.due("follow() behind the plan", x.follow(), NONE);
        CHECK.due("left() behind the plan", x.left(), 0);
        CHECK.due("spent in all", x.count(5), 3);
    }

    private static void followingAboveTheBudget() {
        GaugeWall x = Check.wallOf(Check.box("a", 3, 1, "s0+s1"));
        x.plan(1, 1);
        x.budget(1);
        CHECK.due("follow()", x.follow(), -2);
        CHECK.due("asked", x.count(6), 0);
        x.ask(1);
        CHECK.due("follow()", x.follow(), -2);
        x.budget(2);
        CHECK.due("follow()", x.follow(), 1);
    }
}
