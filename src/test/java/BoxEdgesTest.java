/** The edges of boxes and lets: ages of part III of the terms, and promises 12 to 17 and 25. */
public final class BoxEdgesTest {
    private static final int NONE = GaugeWall.NONE;
    private static final Check CHECK = new Check("BoxEdgesTest");

    private static final String[] NO_BOX = {"-1", "3", "6", "MOST", "LEAST"};
    private static final String ONE = Check.box("a", 1, 1, "s0");

    public static void main(String[] args) {
        looksAtTheEdges();
        looksInTheSameTick();
        showsAtTheEdges();
        showedAtTheEdges();
        showedInTheLastTick();
        boxesAtTheEdges();
        staleAtTheEdges();
        agesAtTheEdges();
        ownCostsAtTheEdges();
        letsAtTheEdges();
        letsOfLets();
        wrapAround();
        leastAndMost();
        unseenAtTheEdges();
        unseenBehindNow();
        unseenOfAll();
        unseenInTheLastTick();
        CHECK.finish();
    }

    private static Run busy(String sentence) {
        return Run.busy(CHECK, sentence);
    }

    private static String six(int fresh) {
        StringBuilder text = new StringBuilder();
        for (int k = 0; k < 6; k++) {
            text.append(Check.box("b" + k, k, fresh, "s" + k));
        }
        return text.toString();
    }

    // "true; false: there is none such"
    private static void looksAtTheEdges() {
        for (String box : NO_BOX) {
            busy("look").refused("look(" + box + ")", false).end();
        }
        new Run(CHECK, "look", six(1)).due("look(0)", true).due("look(5)", true).refused("look(6)", false)
            .due("box(5, 7)", 1).due("box(5, 8)", 0).due("box(4, 7)", 0).due("box(4, 8)", NONE).end();
        new Run(CHECK, "look at no boxes", "let a=1;").refused("look(0)", false).end();
    }

    // "7: looks, 8: the TICK of the latest look (NONE)"
    private static void looksInTheSameTick() {
        new Run(CHECK, "looks", ONE).due("box(0, 7)", 0).due("box(0, 8)", NONE).due("look(0)", true)
            .due("box(0, 7)", 1).due("box(0, 8)", 0).due("look(0)", true).due("box(0, 7)", 2).calls("tick()", "tick()")
            .due("box(0, 8)", 0).due("look(0)", true).due("box(0, 7)", 3).due("box(0, 8)", 2).end();
    }

    // "0 if it shows nothing, or there is none such"
    private static void showsAtTheEdges() {
        for (String box : NO_BOX) {
            busy("shows").due("shows(" + box + ")", 0).due("showed(" + box + ", 0)", 0)
                .due("aged(" + box + ", 0)", NONE).due("box(" + box + ", 0)", NONE).due("at(" + box + ", 0)", NONE).end();
        }
        Run run = new Run(CHECK, "shows", six(1));
        for (int k = 0; k < 6; k++) {
            run.calls("value(" + k + ", 0, " + (k - 7) + ")").due("shows(" + k + ")", 0)
                .due("ask(" + (1 << k) + ")", 1).due("shows(" + k + ")", k - 7);
        }
        run.due("shows(6)", 0).due("shows(-1)", 0).end();
    }

    // "at the end of TICK t (0 .. now); 0 if nothing"
    private static void showedAtTheEdges() {
        new Run(CHECK, "showed", ONE).calls("value(0, 0, 5)", "value(0, 1, 6)").due("showed(0, 0)", 0).due("ask(1)", 1)
            .due("showed(0, 0)", 5).due("showed(0, 1)", 0).due("showed(0, -1)", 0).due("tick()", 1)
            .due("showed(0, 1)", 5).due("ask(1)", 1).due("showed(0, 1)", 6).due("showed(0, 0)", 5)
            .due("showed(0, 2)", 0).due("showed(0, MOST)", 0).due("showed(0, LEAST)", 0).due("showed(0, 400)", 0).end();
        new Run(CHECK, "showed nothing ahead", ONE).calls("value(0, 0, 5)", "tick()", "ask(1)").due("showed(0, 0)", 0)
            .due("aged(0, 0)", NONE).due("showed(0, 1)", 5).due("aged(0, 1)", 0).end();
    }

    // "TICK t (0 .. now)", when now is the last one
    private static void showedInTheLastTick() {
        new Run(CHECK, "the last tick", ONE).calls("value(0, 0, 5)", "value(0, 399, 6)", "ask(1)").repeat(399, "tick()")
            .due("showed(0, 0)", 5).due("showed(0, 399)", 5).due("aged(0, 399)", 399).due("ask(1)", 1)
            .due("showed(0, 398)", 5).due("showed(0, 399)", 6).due("showed(0, 400)", 0).due("aged(0, 398)", 398)
            .due("aged(0, 399)", 0).due("aged(0, 400)", NONE).end();
    }

    // "NONE for others."
    private static void boxesAtTheEdges() {
        busy("box 0 .. 10").due("box(0, 0)", 5).due("box(0, 10)", 0).due("box(0, -1)", NONE).due("box(0, 11)", NONE)
            .due("box(0, MOST)", NONE).due("box(0, LEAST)", NONE).end();
        int[] third = {6, 3, 3, 1, 16, 0, 0, 2, 1, 1, 2};
        Run run = busy("box 0 .. 10");
        for (int what = 0; what < third.length; what++) {
            run.due("box(2, " + what + ")", third[what]);
        }
        run.end();
        new Run(CHECK, "the last box", six(6)).due("box(5, 0)", 5).due("box(6, 0)", NONE).end();
    }

    // "it is STALE if that is above its fresh, or it never was"
    private static void staleAtTheEdges() {
        for (int fresh = 1; fresh <= 6; fresh++) {
            Run run = new Run(CHECK, "fresh " + fresh, Check.box("a", 1, fresh, "s0") + Check.box("b", 1, 6, "s1"))
                .due("box(0, 5)", 1).due("count(8)", 2).due("ask(1)", 1);
            for (int age = 0; age <= fresh; age++) {
                run.due("box(0, 6)", age).due("box(0, 5)", 0).due("count(8)", 1).calls("tick()");
            }
            run.due("box(0, 6)", fresh + 1).due("box(0, 5)", 1).due("count(8)", 2).due("ask(1)", 1)
                .due("box(0, 5)", 0).due("box(0, 6)", 0).end();
        }
    }

    // "NONE: it was not RENEWED by then, or there is none such"
    private static void agesAtTheEdges() {
        new Run(CHECK, "aged", ONE).due("aged(0, 0)", NONE).calls("tick()").due("aged(0, 1)", NONE).due("ask(1)", 1)
            .due("aged(0, 1)", 0).due("aged(0, 0)", NONE).due("aged(0, 2)", NONE).calls("tick()", "tick()")
            .due("aged(0, 0)", NONE).due("aged(0, 1)", 0).due("aged(0, 2)", 1).due("aged(0, 3)", 2)
            .due("aged(0, 4)", NONE).due("aged(0, -1)", NONE).due("aged(0, 400)", NONE).due("aged(0, MOST)", NONE)
            .due("aged(0, LEAST)", NONE).end();
    }

    // "10: the COSTS of SOURCES that no other BOX has"
    private static void ownCostsAtTheEdges() {
        String costs = "s0+s1+s2+s3+s4+s5";
        Run run = new Run(CHECK, "own costs", Check.box("a", 1, 1, costs));
        for (int s = 0; s < 6; s++) {
            run.due("box(0, 10)", 6 + 8 * s).calls("cost(" + s + ", 9)");
        }
        run.due("box(0, 10)", 54).due("box(0, 4)", 63).end();
        new Run(CHECK, "no own costs", Check.box("a", 1, 1, costs) + Check.box("b", 1, 1, "s5") + Check.box("c", 1, 1, costs))
            .due("box(0, 10)", 0).due("box(1, 10)", 0).due("box(2, 10)", 0).end();
        // A let that no box has gives no box a source.
        new Run(CHECK, "a let is no box", "let l=s0;" + Check.box("a", 1, 1, "s0")).due("box(0, 10)", 1).end();
    }

    // "0 if there is none such"
    private static void letsAtTheEdges() {
        StringBuilder text = new StringBuilder();
        for (int k = 0; k < 12; k++) {
            text.append("let l").append(k).append("=").append(k + 20).append(";");
        }
        new Run(CHECK, "let", text.toString()).due("let(0)", 20).due("let(11)", 31).due("let(12)", 0).due("let(-1)", 0)
            .due("let(MOST)", 0).due("let(LEAST)", 0).end();
        new Run(CHECK, "let", "let l=4;" + ONE).due("let(0)", 4).due("let(1)", 0).end();
        new Run(CHECK, "no lets", ONE).due("let(0)", 0).end();
        // "by VALUES, whether SOURCES are DOWN or not"
        new Run(CHECK, "let while down", "let l=s0;").calls("value(0, 0, 6)", "down(0, 0, 2)", "budget(0)").due("let(0)", 6)
            .due("count(6)", 0).due("count(4)", 0).end();
    }

    // "of all LETS of it": as long a chain of them as there can be
    private static void letsOfLets() {
        StringBuilder text = new StringBuilder("let l0=s5*3;");
        for (int k = 1; k < 12; k++) {
            text.append("let l").append(k).append("=l").append(k - 1).append("*2+1;");
        }
        new Run(CHECK, "lets of lets", text + Check.box("a", 1, 1, "l11")).calls("value(5, 0, 1)")
            .due("box(0, 4)", 32).due("let(11)", 4 * 2048 - 1).due("ask(32)", 1).due("shows(0)", 4 * 2048 - 1).end();
    }

    // "E's are longs that wrap."
    private static void wrapAround() {
        // s0 is 2^31 - 1, s1 is -2^31: p is 2^62, and m and x are the ends of a long.
        String text = "let p=s1*s1;let m=0-p-p;let x=m-1;let a=x+1;let b=m-1-x;let c=m*s1;let d=x*2;let e=m*(0-1);"
            + "let n=0-m;let g=x*x;let h=m*m+x;" + Check.box("q", 1, 1, "x+1") + Check.box("r", 1, 1, "m-s0");
        new Run(CHECK, "longs that wrap", text).calls("value(1, 0, LEAST)", "value(0, 0, MOST)")
            .due("let(0)", 1L << 62).due("let(1)", Long.MIN_VALUE).due("let(2)", Long.MAX_VALUE)
            .due("let(3)", Long.MIN_VALUE).due("let(4)", 0).due("let(5)", 0).due("let(6)", -2)
            .due("let(7)", Long.MIN_VALUE).due("let(8)", Long.MIN_VALUE).due("let(9)", 1)
            .due("let(10)", Long.MAX_VALUE).due("ask(3)", 2).due("shows(0)", Long.MIN_VALUE)
            .due("shows(1)", Long.MAX_VALUE - Integer.MAX_VALUE + 1).end();
    }

    // 'min', 'max' of the ends of a long
    private static void leastAndMost() {
        String text = "let m=0-s1*s1-s1*s1;let x=m-1;let a=min(m,x);let b=max(m,x);let c=min(x,m);let d=max(x,m);"
            + "let e=min(m,1);let f=max(m,0-1);let g=min(x,0-1);let h=max(x,1);let i=min(3,3);let j=max(0,0-9999);";
        new Run(CHECK, "min and max", text).calls("value(1, 0, LEAST)").due("let(2)", Long.MIN_VALUE)
            .due("let(3)", Long.MAX_VALUE).due("let(4)", Long.MIN_VALUE).due("let(5)", Long.MAX_VALUE)
            .due("let(6)", Long.MIN_VALUE).due("let(7)", -1).due("let(8)", -1).due("let(9)", Long.MAX_VALUE)
            .due("let(10)", 3).due("let(11)", 0).end();
    }

    // "d 1 .. 400"; "NONE: not so many, no such d"
    private static void unseenAtTheEdges() {
        busy("unseen").due("unseen(1, 0)", 0).due("unseen(1, 1)", 1).due("unseen(1, 2)", NONE).due("unseen(2, 0)", 1)
            .due("unseen(2, 1)", NONE).due("unseen(400, 0)", 1).due("unseen(401, 0)", NONE).due("unseen(0, 0)", NONE)
            .due("unseen(-1, 0)", NONE).due("unseen(MOST, 0)", NONE).due("unseen(LEAST, 0)", NONE)
            .due("unseen(1, -1)", NONE).due("unseen(1, MOST)", NONE).due("unseen(1, LEAST)", NONE).end();
        new Run(CHECK, "unseen of no boxes", "let a=1;").due("unseen(1, 0)", NONE).due("unseen(400, 0)", NONE).end();
    }

    // "those behind now - d"
    private static void unseenBehindNow() {
        Run run = new Run(CHECK, "behind now - d", ONE).calls("tick()", "look(0)");
        for (int d = 1; d <= 8; d++) {
            run.due("unseen(" + d + ", 0)", NONE).calls("tick()").due("unseen(" + d + ", 0)", 0)
                .due("unseen(" + (d + 1) + ", 0)", NONE);
        }
        run.end();
    }

    // "never counts so"
    private static void unseenOfAll() {
        Run run = new Run(CHECK, "never", six(1));
        for (int k = 0; k < 6; k++) {
            run.due("unseen(400, " + k + ")", k).due("unseen(1, " + k + ")", k);
        }
        run.due("unseen(400, 6)", NONE).calls("look(0)", "look(5)").due("unseen(1, 0)", 1).due("unseen(1, 3)", 4)
            .due("unseen(1, 4)", NONE).due("unseen(400, 3)", 4).due("unseen(400, 4)", NONE).end();
    }

    // "in the last d TICKS", when these are all that there are
    private static void unseenInTheLastTick() {
        new Run(CHECK, "the last tick", ONE + Check.box("b", 1, 1, "s0")).calls("look(0)").repeat(399, "tick()")
            .due("unseen(400, 0)", 1).due("unseen(400, 1)", NONE).due("unseen(399, 0)", 0).due("unseen(399, 1)", 1)
            .due("unseen(399, 2)", NONE).due("unseen(401, 0)", NONE).end();
    }
}
