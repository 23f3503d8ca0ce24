/** Promises 6 to 11 and 26: costs, the budget, values, downs, asking, ticks and counts. */
public final class SourcesTest {
    private static final int NONE = GaugeWall.NONE;
    private static final Check CHECK = new Check("SourcesTest");

    private static final String THREE =
        Check.box("a", 1, 1, "s0+s1") + Check.box("b", 1, 2, "s1") + Check.box("c", 1, 3, "s2*100");

    public static void main(String[] args) {
        costs();
        budgets();
        values();
        valuesTold();
        factsAreBounded();
        downs();
        severalDown();
        downsAreBounded();
        asking();
        askingAboveTheBudget();
        costsAreThoseOfTheAsking();
        downWhileAsked();
        downToldBehindTheAsking();
        ticks();
        counts();
        CHECK.finish();
    }

    // Promise 6
    private static void costs() {
        GaugeWall x = Check.wallOf(THREE);
        CHECK.due("cost(0, 9)", x.cost(0, 9), true);
        CHECK.due("cost(5, 1)", x.cost(5, 1), true);
        CHECK.due("cost(1, 4)", x.cost(1, 4), true);
        CHECK.due("cost(0, 0)", x.cost(0, 0), false);
        CHECK.due("cost(0, 10)", x.cost(0, 10), false);
        CHECK.due("cost(0, least)", x.cost(0, Integer.MIN_VALUE), false);
        CHECK.due("cost(-1, 1)", x.cost(-1, 1), false);
        CHECK.due("cost(6, 1)", x.cost(6, 1), false);
        CHECK.due("own costs of a", x.box(0, 10), 9);
        CHECK.due("own costs of b", x.box(1, 10), 0);
        CHECK.due("own costs of c", x.box(2, 10), 1);
        x.ask(3);
        CHECK.due("spent", x.count(4), 13);
    }

    // Promise 7
    private static void budgets() {
        GaugeWall x = new GaugeWall();
        CHECK.due("budget(0)", x.budget(0), true);
        CHECK.due("the budget", x.count(7), 0);
        CHECK.due("budget(60)", x.budget(60), true);
        CHECK.due("budget(61)", x.budget(61), false);
        CHECK.due("budget(-1)", x.budget(-1), false);
        CHECK.due("the budget", x.count(7), 60);
        CHECK.due("budget(7)", x.budget(7), true);
        CHECK.due("the budget", x.count(7), 7);
    }

    // Promise 8
    private static void values() {
        GaugeWall x = Check.wallOf("let a=s0;let f=s5;");
        CHECK.due("let(0) without a fact", x.let(0), 0);
        CHECK.due("value(0, 2, 5)", x.value(0, 2, 5), 0);
        CHECK.due("let(0) ahead of it", x.let(0), 0);
        CHECK.due("value(0, 0, -7)", x.value(0, 0, -7), 1);
        CHECK.due("let(0)", x.let(0), -7);
        CHECK.due("value(0, 0, 8)", x.value(0, 0, 8), 2);
        CHECK.due("let(0), the last told", x.let(0), 8);
        Check.ticks(x, 2);
        CHECK.due("let(0), the latest tick", x.let(0), 5);
        CHECK.due("value(0, 1, 6)", x.value(0, 1, 6), 3);
        CHECK.due("let(0), told late of an earlier tick", x.let(0), 5);
        CHECK.due("value(0, 399, 1)", x.value(0, 399, 1), 4);
        CHECK.due("value(0, 400, 1)", x.value(0, 400, 1), NONE);
        CHECK.due("value(0, -1, 1)", x.value(0, -1, 1), NONE);
        CHECK.due("value(6, 0, 1)", x.value(6, 0, 1), NONE);
        CHECK.due("value(-1, 0, 1)", x.value(-1, 0, 1), NONE);
        CHECK.due("value(5, 0, least)", x.value(5, 0, Integer.MIN_VALUE), 5);
        CHECK.due("let(1)", x.let(1), Integer.MIN_VALUE);
        CHECK.due("facts", x.count(3), 6);
    }

    private static void valuesTold() {
        GaugeWall x = Check.wallOf(THREE);
        x.value(1, 0, 3);
        x.ask(2);
        x.value(1, 0, 4);
        CHECK.due("shows(1) stays", x.shows(1), 3);
        CHECK.due("ask(2) again", x.ask(2), 0);
        CHECK.due("shows(1) still", x.shows(1), 3);
        CHECK.due("ask(1)", x.ask(1), 1);
        CHECK.due("shows(0) by the value now", x.shows(0), 4);
        x.tick();
        CHECK.due("shows(1) in the next tick", x.shows(1), 3);
        x.ask(2);
        CHECK.due("shows(1) when renewed", x.shows(1), 4);
        CHECK.due("showed(1, 0)", x.showed(1, 0), 3);
    }

    private static void factsAreBounded() {
        GaugeWall x = Check.wallOf("let a=s3;");
        for (int n = 0; n < 400; n++) {
            CHECK.due("fact " + n, x.value(3, n % 3, n), n);
        }
        CHECK.due("a 401st fact", x.value(3, 0, 77), NONE);
        CHECK.due("facts", x.count(3), 400);
        CHECK.due("let(0)", x.let(0), 399);
    }

    // Promise 9
    private static void downs() {
        GaugeWall x = Check.wallOf(THREE);
        x.tick();
        CHECK.due("down(1, 0, 2) behind now", x.down(1, 0, 2), false);
        CHECK.due("down(1, -1, 2)", x.down(1, -1, 2), false);
        CHECK.due("down(1, 2, 2)", x.down(1, 2, 2), false);
        CHECK.due("down(1, 3, 2)", x.down(1, 3, 2), false);
        CHECK.due("down(1, 399, 401)", x.down(1, 399, 401), false);
        CHECK.due("down(1, 1, least)", x.down(1, 1, Integer.MIN_VALUE), false);
        CHECK.due("down(6, 1, 2)", x.down(6, 1, 2), false);
        CHECK.due("down(-1, 1, 2)", x.down(-1, 1, 2), false);
        CHECK.due("ask(2), not down", x.ask(2), 1);
        CHECK.due("down(1, 2, 4)", x.down(1, 2, 4), true);
        CHECK.due("down(2, 399, 400)", x.down(2, 399, 400), true);
        int[] renewed = {0, 0, 2};
        for (int n = 0; n < renewed.length; n++) {
            x.tick();
            CHECK.due("ask(3) in tick " + (n + 2), x.ask(3), renewed[n]);
        }
    }

    private static void severalDown() {
        GaugeWall x = Check.wallOf(THREE);
        x.down(0, 0, 1);
        x.down(1, 0, 2);
        x.down(2, 1, 3);
        int[] renewed = {1, 0, 2, 3};
        for (int t = 0; t < renewed.length; t++) {
            CHECK.due("ask(7) in tick " + t, x.ask(7), renewed[t]);
            x.tick();
        }
    }

    private static void downsAreBounded() {
        GaugeWall x = Check.wallOf(THREE);
        for (int n = 0; n < 40; n++) {
            CHECK.due("down " + n, x.down(0, n, 400), true);
        }
        CHECK.due("a 41st", x.down(1, 0, 400), false);
        CHECK.due("ask(3)", x.ask(3), 1);
    }

    // Promise 10
    private static void asking() {
        GaugeWall x = Check.wallOf(THREE);
        CHECK.due("ask(-1)", x.ask(-1), NONE);
        CHECK.due("ask(64)", x.ask(64), NONE);
        CHECK.due("asked", x.count(6), 0);
        CHECK.due("ask(0)", x.ask(0), 0);
        CHECK.due("ask(32) that no box has", x.ask(32), 0);
        CHECK.due("ask(1)", x.ask(1), 0);
        CHECK.due("ask(6)", x.ask(6), 3);
        CHECK.due("ask(63)", x.ask(63), 0);
        CHECK.due("asked", x.count(6), 63);
        CHECK.due("spent", x.count(4), 6);
    }

    private static void askingAboveTheBudget() {
        GaugeWall x = Check.wallOf(THREE);
        x.cost(0, 3);
        x.cost(1, 2);
        x.budget(4);
        CHECK.due("ask(3) above", x.ask(3), -2);
        CHECK.due("asked", x.count(6), 0);
        CHECK.due("spent", x.count(4), 0);
        CHECK.due("ask(5) just within", x.ask(5), 1);
        CHECK.due("ask(2) above", x.ask(2), -2);
        CHECK.due("ask(7) above", x.ask(7), -2);
        CHECK.due("ask(4) costs nothing", x.ask(4), 0);
        x.budget(0);
        CHECK.due("ask(5) costs nothing", x.ask(5), 0);
        CHECK.due("ask(0)", x.ask(0), 0);
        CHECK.due("ask(8)", x.ask(8), -2);
        x.budget(6);
        CHECK.due("ask(2) within", x.ask(2), 2);
        CHECK.due("spent", x.count(4), 6);
        CHECK.due("ask(-1) ahead of the budget", x.ask(-1), NONE);
    }

    private static void costsAreThoseOfTheAsking() {
        GaugeWall x = Check.wallOf(THREE);
        x.ask(1);
        x.cost(0, 9);
        CHECK.due("spent stays", x.count(4), 1);
        x.ask(3);
        CHECK.due("asked again costs nothing", x.count(4), 2);
        x.tick();
        x.ask(1);
        CHECK.due("spent", x.count(4), 9);
        CHECK.due("spent in all", x.count(5), 11);
    }

    private static void downWhileAsked() {
        GaugeWall x = Check.wallOf(THREE);
        x.cost(1, 5);
        x.value(1, 0, 3);
        x.ask(3);
        x.tick();
        x.value(1, 1, 8);
        x.down(1, 1, 2);
        CHECK.due("ask(3)", x.ask(3), 0);
        CHECK.due("spent for what is down", x.count(4), 6);
        CHECK.due("asked", x.count(6), 3);
        CHECK.due("shows(1)", x.shows(1), 3);
        CHECK.due("age", x.box(1, 6), 1);
    }

    private static void downToldBehindTheAsking() {
        GaugeWall x = Check.wallOf(THREE);
        CHECK.due("ask(2)", x.ask(2), 1);
        CHECK.due("down(1, 0, 1)", x.down(1, 0, 1), true);
        CHECK.due("b stays renewed", x.box(1, 6), 0);
        CHECK.due("a is not renewed by ask(1)", x.ask(1), 0);
        CHECK.due("age of a", x.box(0, 6), NONE);
    }

    // Promise 11
    private static void ticks() {
        GaugeWall x = Check.wallOf(THREE);
        x.ask(7);
        for (int t = 1; t < 400; t++) {
            CHECK.due("tick()", x.tick(), t);
        }
        x.ask(1);
        CHECK.due("tick() in 399", x.tick(), NONE);
        CHECK.due("now", x.count(2), 399);
        CHECK.due("asked stays", x.count(6), 1);
        CHECK.due("spent stays", x.count(4), 1);
        CHECK.due("age", x.box(0, 6), 399);
        CHECK.due("aged(0, 200)", x.aged(0, 200), 200);
        CHECK.due("down(0, 399, 400)", x.down(0, 399, 400), true);
        CHECK.due("plan(1, 1) in 399", x.plan(1, 1), 0);
        CHECK.due("plan(1, 2) in 399", x.plan(1, 2), NONE);
    }

    // Promise 26
    private static void counts() {
        GaugeWall x = Check.wallOf("let u=1;let v=2;" + THREE);
        x.cost(0, 4);
        x.budget(33);
        x.value(0, 0, 1);
        x.ask(3);
        x.tick();
        x.ask(5);
        x.tick();
        x.feed(0, 0, 0, 0, 0);
        x.ask(2);
        // a was renewed in 0 (fresh 1), b in 2, c in 1.
        int[] counts = {3, 2, 2, 1, 1, 11, 2, 33, 1, 20};
        for (int what = 0; what < counts.length; what++) {
            CHECK.due("count(" + what + ")", x.count(what), counts[what]);
        }
        CHECK.due("count(-1)", x.count(-1), NONE);
        CHECK.due("count(10)", x.count(10), NONE);
        CHECK.due("count(most)", x.count(Integer.MAX_VALUE), NONE);
    }
}
