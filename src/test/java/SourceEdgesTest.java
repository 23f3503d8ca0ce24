/** The edges of sources and asking: parts I and III of the terms, and promises 6 to 11 and 26. */
public final class SourceEdgesTest {
    private static final int NONE = GaugeWall.NONE;
    private static final int ABOVE = -2;
    private static final Check CHECK = new Check("SourceEdgesTest");

    /** A box of each source by itself. */
    private static final String SIX = Check.box("a", 1, 1, "s0") + Check.box("b", 1, 2, "s1") + Check.box("c", 1, 3, "s2")
        + Check.box("d", 1, 4, "s3") + Check.box("e", 1, 5, "s4") + Check.box("f", 1, 6, "s5");
    private static final String ONE = Check.box("a", 1, 1, "s0");
    private static final String LET = "let a=s0;let f=s5;";

    public static void main(String[] args) {
        costsAtFirst();
        costsAtTheEdges();
        budgetsAtTheEdges();
        budgetAtFirst();
        justWithinTheBudget();
        nothingMoreIsNeverAbove();
        setsAtTheEdges();
        askedAlready();
        askedInAnotherTick();
        downIsPaid();
        renewedOnce();
        valuesAtTheEdges();
        valuesUpToNow();
        lastToldOfATick();
        valueOfTheLastTick();
        factsAtMost();
        shownStays();
        downsAtTheEdges();
        downsFromNowOn();
        downSpans();
        downInTheLastTick();
        downsAtMost();
        lastTick();
        countsAtTheEdges();
        lastCall();
        CHECK.finish();
    }

    private static Run busy(String sentence) {
        return Run.busy(CHECK, sentence).tape("let q=8;");
    }

    // "each has a COST (1 .. 9; 1 at first)"
    private static void costsAtFirst() {
        Run run = new Run(CHECK, "1 at first", SIX);
        for (int s = 0; s < 6; s++) {
            run.due("box(" + s + ", 10)", 1).due("ask(" + (1 << s) + ")", 1).due("count(4)", s + 1);
        }
        run.end();
    }

    // "The COST of a SOURCE becomes c: true; false for others."
    private static void costsAtTheEdges() {
        for (int s = 0; s < 6; s++) {
            new Run(CHECK, "cost 1 .. 9", SIX).due("cost(" + s + ", 9)", true).due("box(" + s + ", 10)", 9)
                .refused("cost(" + s + ", 10)", false).refused("cost(" + s + ", 0)", false)
                .due("cost(" + s + ", 1)", true).due("box(" + s + ", 10)", 1).due("cost(" + s + ", 2)", true)
                .refused("cost(" + s + ", -1)", false).refused("cost(" + s + ", MOST)", false)
                .refused("cost(" + s + ", LEAST)", false).due("ask(" + (1 << s) + ")", 1).due("count(4)", 2).end();
        }
        for (String source : new String[] {"-1", "6", "7", "MOST", "LEAST"}) {
            busy("SOURCES 0 .. 5").refused("cost(" + source + ", 5)", false).end();
        }
    }

    // "THE BUDGET becomes b: true; false for others."
    private static void budgetsAtTheEdges() {
        for (int b : new int[] {0, 1, 59, 60}) {
            busy("0 .. 60").due("budget(" + b + ")", true).due("count(7)", b).end();
        }
        for (String b : new String[] {"-1", "61", "MOST", "LEAST"}) {
            busy("0 .. 60").refused("budget(" + b + ")", false).due("count(7)", 20).end();
        }
    }

    // "60 at first"
    private static void budgetAtFirst() {
        Run run = new Run(CHECK, "60 at first", SIX).due("count(7)", 60);
        for (int s = 0; s < 6; s++) {
            run.calls("cost(" + s + ", 9)");
        }
        run.due("ask(63)", 6).due("count(4)", 54).end();
    }

    // "-2: it would cost something, and be above the BUDGET"
    private static void justWithinTheBudget() {
        new Run(CHECK, "above the budget", SIX).calls("cost(0, 4)", "cost(1, 3)", "budget(6)").refused("ask(3)", ABOVE)
            .due("budget(7)", true).due("ask(3)", 2).due("count(4)", 7).refused("ask(4)", ABOVE)
            .refused("ask(7)", ABOVE).due("budget(8)", true).due("ask(7)", 1).due("count(4)", 8)
            .refused("ask(8)", ABOVE).end();
        new Run(CHECK, "the budget is a tick's", SIX).calls("budget(1)").due("ask(1)", 1).refused("ask(2)", ABOVE)
            .due("tick()", 1).due("ask(2)", 1).refused("ask(1)", ABOVE).due("count(5)", 2).end();
        new Run(CHECK, "a budget of 0", SIX).calls("budget(0)").due("ask(0)", 0).refused("ask(1)", ABOVE)
            .refused("ask(63)", ABOVE).due("count(6)", 0).end();
    }

    // "those asked in it already cost nothing more"
    private static void nothingMoreIsNeverAbove() {
        new Run(CHECK, "asked already", SIX).due("ask(3)", 2).due("budget(1)", true).due("ask(3)", 0).due("ask(1)", 0)
            .due("ask(0)", 0).refused("ask(4)", ABOVE).refused("ask(7)", ABOVE).due("count(4)", 2)
            .due("count(6)", 3).end();
    }

    // "NONE, and nothing happens: no such set"
    private static void setsAtTheEdges() {
        for (String set : new String[] {"64", "-1", "65", "127", "128", "MOST", "LEAST"}) {
            busy("bits 0 .. 5").refused("ask(" + set + ")", NONE).end();
            busy("no such set, whatever the budget").calls("budget(0)").refused("ask(" + set + ")", NONE).end();
        }
        new Run(CHECK, "the whole set", SIX).due("ask(0)", 0).due("ask(32)", 1).due("ask(63)", 5).due("count(6)", 63).end();
        new Run(CHECK, "a wall without boxes").due("ask(63)", 0).due("count(4)", 6).end();
    }

    // "how many BOXES are RENEWED by it (that were not in this TICK)"
    private static void askedAlready() {
        new Run(CHECK, "renewed by it", ONE + Check.box("b", 1, 1, "s0*s1") + Check.box("c", 1, 1, "s0-s5"))
            .due("ask(1)", 1).due("ask(2)", 1).due("ask(3)", 0).due("ask(32)", 1).due("ask(63)", 0)
            .due("box(0, 9)", 1).due("box(1, 9)", 1).due("count(4)", 6).due("tick()", 1).due("ask(35)", 3)
            .due("box(0, 9)", 2).end();
    }

    // "when all its SOURCES are asked in it": in one TICK
    private static void askedInAnotherTick() {
        new Run(CHECK, "asked in it", Check.box("b", 1, 1, "s0*s1")).calls("value(0, 0, 3)", "value(1, 0, 5)")
            .due("ask(1)", 0).due("tick()", 1).due("count(6)", 0).due("count(4)", 0).due("ask(2)", 0)
            .due("shows(0)", 0).due("box(0, 6)", NONE).due("ask(1)", 1).due("shows(0)", 15).due("count(5)", 3).end();
    }

    // "What is spent .. those that are DOWN, too"; "none of them is DOWN"
    private static void downIsPaid() {
        new Run(CHECK, "down, too", Check.box("b", 1, 1, "s0*s1") + Check.box("c", 1, 1, "s1"))
            .calls("cost(0, 7)", "down(0, 0, 1)", "budget(8)").due("ask(3)", 1).due("count(4)", 8)
            .due("count(6)", 3).due("box(0, 6)", NONE).due("box(1, 6)", 0).refused("ask(4)", ABOVE).end();
        new Run(CHECK, "down is above the budget, too", ONE).calls("down(0, 0, 1)", "budget(0)")
            .refused("ask(1)", ABOVE).end();
    }

    // "it shows then what its E is by their values in that TICK; else what it showed ahead"
    private static void renewedOnce() {
        new Run(CHECK, "renewed once a tick", ONE).calls("value(0, 0, 3)").due("ask(1)", 1).calls("value(0, 0, 4)")
            .due("ask(1)", 0).due("shows(0)", 3).due("tick()", 1).due("shows(0)", 3).calls("down(0, 1, 2)")
            .due("ask(1)", 0).due("shows(0)", 3).due("tick()", 2).due("ask(1)", 1).due("shows(0)", 4)
            .due("box(0, 9)", 2).end();
    }

    // "NONE, and nothing happens: .. no such SOURCE, TICK"
    private static void valuesAtTheEdges() {
        for (String source : new String[] {"-1", "6", "MOST", "LEAST"}) {
            busy("no such source").refused("value(" + source + ", 0, 1)", NONE).due("count(3)", 5).end();
        }
        for (String tick : new String[] {"-1", "400", "401", "MOST", "LEAST"}) {
            busy("no such tick").refused("value(0, " + tick + ", 1)", NONE).due("count(3)", 5).end();
        }
        new Run(CHECK, "value", LET).due("value(0, 0, MOST)", 0).due("value(5, 0, LEAST)", 1)
            .due("value(0, 399, 1)", 2).due("let(0)", Integer.MAX_VALUE).due("let(1)", Integer.MIN_VALUE)
            .due("count(3)", 3).end();
    }

    // "the value of the fact with the latest TICK up to t .. 0 without one"
    private static void valuesUpToNow() {
        new Run(CHECK, "up to now", LET).due("let(0)", 0).calls("value(0, 1, 5)").due("let(0)", 0).due("tick()", 1)
            .due("let(0)", 5).due("let(1)", 0).calls("value(0, 2, 6)").due("let(0)", 5).due("tick()", 2)
            .due("let(0)", 6).calls("value(0, 1, 7)").due("let(0)", 6).calls("value(0, 0, 8)").due("let(0)", 6)
            .calls("value(0, 2, 0)").due("let(0)", 0).due("let(1)", 0).end();
    }

    // "of the same TICK the last told"
    private static void lastToldOfATick() {
        new Run(CHECK, "the last told", LET).calls("value(0, 0, 9)", "value(0, 0, 2)").due("let(0)", 2)
            .calls("value(5, 0, 3)").due("let(0)", 2).calls("value(0, 0, 4)").due("let(0)", 4).due("let(1)", 3).end();
    }

    // "from TICK t (0 .. 399) on"
    private static void valueOfTheLastTick() {
        new Run(CHECK, "the last tick", LET).calls("value(0, 399, 5)", "value(0, 398, 4)").repeat(397, "tick()")
            .due("let(0)", 0).due("tick()", 398).due("let(0)", 4).due("tick()", 399).due("let(0)", 5).end();
    }

    // "VALUES are told as facts (400 at most)": "NONE, and nothing happens: 400 are there"
    private static void factsAtMost() {
        Run run = new Run(CHECK, "400 facts", LET);
        for (int n = 0; n < 399; n++) {
            run.due("value(0, 0, " + n + ")", n);
        }
        run.due("let(0)", 398).due("value(5, 0, 77)", 399).due("count(3)", 400).refused("value(5, 0, 78)", NONE)
            .refused("value(0, 0, 78)", NONE).refused("value(0, 1, 78)", NONE).refused("value(6, 0, 78)", NONE)
            .due("count(3)", 400).due("let(0)", 398).due("let(1)", 77).end();
    }

    // "(What was shown stays.)"
    private static void shownStays() {
        new Run(CHECK, "what was shown stays", ONE).calls("value(0, 0, 3)", "ask(1)", "value(0, 0, 4)")
            .due("shows(0)", 3).due("tick()", 1).calls("value(0, 0, 5)").due("showed(0, 0)", 3).due("shows(0)", 3)
            .due("ask(1)", 1).due("shows(0)", 5).due("showed(0, 0)", 3).end();
    }

    // "False, and nothing happens: .. no such SOURCE, a not 0 .. b - 1, b above 400"
    private static void downsAtTheEdges() {
        String[] wrong = {"-1, 3, 4", "6, 3, 4", "MOST, 3, 4", "LEAST, 3, 4", "4, 3, 3", "4, 4, 3", "4, -1, 3",
            "4, -1, 0", "4, 399, 401", "4, 400, 401", "4, 400, 400", "4, 3, MOST", "4, MOST, LEAST", "4, LEAST, 3",
            "4, 1, LEAST", "4, 3, -1", "4, LEAST, LEAST"};
        for (String span : wrong) {
            busy("down").refused("down(" + span + ")", false).end();
        }
        for (int s = 0; s < 6; s++) {
            new Run(CHECK, "down 0 .. 5", SIX).due("down(" + s + ", 0, 1)", true).due("ask(63)", 5)
                .due("box(" + s + ", 6)", NONE).due("tick()", 1).due("ask(63)", 6).end();
        }
        busy("down").due("down(4, 399, 400)", true).due("down(4, 1, 400)", true).due("down(0, 1, 2)", true).end();
    }

    // "a is below now"
    private static void downsFromNowOn() {
        new Run(CHECK, "below now", ONE).due("down(0, 0, 1)", true).calls("tick()", "tick()", "tick()")
            .refused("down(0, 2, 9)", false).refused("down(0, 0, 9)", false).due("ask(1)", 1).due("tick()", 4)
            .due("down(0, 4, 5)", true).due("ask(1)", 0).due("tick()", 5).due("ask(1)", 1).end();
    }

    // "DOWN in TICKS a .. b - 1"
    private static void downSpans() {
        int[] renewed = {1, 1, 0, 0, 0, 1, 0, 1};
        Run run = new Run(CHECK, "a .. b - 1", ONE).calls("down(0, 2, 4)", "down(0, 3, 5)", "down(0, 6, 7)", "down(1, 0, 9)");
        for (int t = 0; t < renewed.length; t++) {
            run.due("ask(1)", renewed[t]).calls("tick()");
        }
        run.end();
    }

    // "b above 400": 399 is the last TICK that is down
    private static void downInTheLastTick() {
        new Run(CHECK, "the last tick", ONE).calls("down(0, 399, 400)").repeat(398, "tick()").due("ask(1)", 1)
            .due("tick()", 399).due("ask(1)", 0).due("box(0, 6)", 1).end();
        new Run(CHECK, "told in the last tick", ONE).repeat(399, "tick()").refused("down(0, 398, 400)", false)
            .refused("down(0, 399, 401)", false).refused("down(0, 400, 401)", false).due("down(0, 399, 400)", true)
            .due("ask(1)", 0).end();
    }

    // "told spans of TICKS (40 at most)": "False, and nothing happens: 40 are told"
    private static void downsAtMost() {
        Run run = new Run(CHECK, "40 downs", SIX);
        for (int n = 0; n < 39; n++) {
            run.due("down(" + n % 3 + ", " + n + ", 400)", true);
        }
        run.refused("down(6, 0, 400)", false).refused("down(5, 1, 1)", false).due("down(3, 0, 1)", true)
            .refused("down(4, 0, 1)", false).refused("down(5, 0, 400)", false).refused("down(0, 0, 1)", false)
            .due("ask(63)", 4).due("tick()", 1).refused("down(5, 1, 2)", false).due("ask(63)", 4).end();
    }

    // "NONE, and nothing happens: 399 is now."
    private static void lastTick() {
        Run run = new Run(CHECK, "400 ticks", ONE).calls("ask(1)", "look(0)");
        for (int t = 1; t < 400; t++) {
            run.due("tick()", t);
        }
        run.calls("ask(3)").refused("tick()", NONE).refused("tick()", NONE).due("count(2)", 399).due("count(4)", 2)
            .due("count(6)", 3).due("count(5)", 3).due("box(0, 6)", 0).due("aged(0, 398)", 398)
            .due("aged(0, 399)", 0).due("aged(0, 400)", NONE).end();
    }

    // "NONE for others."
    private static void countsAtTheEdges() {
        busy("count").due("count(0)", 3).due("count(9)", 8).due("count(-1)", NONE).due("count(10)", NONE)
            .due("count(MOST)", NONE).due("count(LEAST)", NONE).end();
        int[] counts = {3, 2, 1, 5, 2, 6, 16, 20, 1, 8};
        Run run = busy("count 0 .. 9");
        for (int what = 0; what < counts.length; what++) {
            run.due("count(" + what + ")", counts[what]);
        }
        run.end();
    }

    // "An object is used for at most 512 calls after it has been made"
    private static void lastCall() {
        GaugeWall x = new GaugeWall();
        int calls = Check.feed(x, ONE);
        x.read();
        x.value(0, 0, 9);
        for (calls += 2; calls < 400; calls++) {
            x.value(1, 0, calls);
        }
        for (; calls < 510; calls++) {
            x.tick();
        }
        CHECK.due("the 511th call, ask(1)", x.ask(1), 1);
        CHECK.due("the 512th call, shows(0)", x.shows(0), 9);
    }
}
