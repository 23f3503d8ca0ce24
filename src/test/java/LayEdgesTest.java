/** The edges of the wall: part V of the terms, and promises 22 to 24. */
public final class LayEdgesTest {
    private static final int NONE = GaugeWall.NONE;
    private static final Check CHECK = new Check("LayEdgesTest");

    public static void main(String[] args) {
        boxesThatAreNone();
        rowsAtTheEdges();
        columnsAtTheEdges();
        beyondColumnSeven();
        fixedOverAnother();
        fixedAnew();
        fixedNoMore();
        columnsOfTheWall();
        asWideAsTheColumns();
        fixedBeyondTheColumns();
        noBoxes();
        firstRoom();
        leastHeight();
        leastWorthTimesRow();
        firstOrder();
        highestWall();
        atTheEdges();
        latestLay();
        CHECK.finish();
    }

    /** Wide, high and worth of each box. */
    private static Run wall(String sentence, int[]... boxes) {
        StringBuilder text = new StringBuilder();
        for (int k = 0; k < boxes.length; k++) {
            text.append(Check.sized("b" + k, boxes[k][2], 1, boxes[k][0], boxes[k][1], "s0"));
        }
        return new Run(CHECK, sentence, text.toString());
    }

    private static int[] sized(int wide, int high, int worth) {
        return new int[] {wide, high, worth};
    }

    /** The height by lay(w), and row and column of each box. */
    private static Run laid(Run run, int w, int height, int... places) {
        run.due("lay(" + w + ")", height);
        for (int n = 0; n < places.length; n++) {
            run.due("at(" + n / 2 + ", " + n % 2 + ")", places[n]);
        }
        return run;
    }

    // "false: no such ones": boxes
    private static void boxesThatAreNone() {
        for (String box : new String[] {"-1", "3", "6", "MOST", "LEAST"}) {
            Run.busy(CHECK, "no such box").refused("fix(" + box + ", 5, 0)", false)
                .refused("fix(" + box + ", NONE, 0)", false).end();
        }
        int[] one = sized(1, 1, 1);
        laid(wall("the last box", one, one, one, one, one, one).due("fix(5, 0, 0)", true).refused("fix(6, 1, 1)", false),
            2, 3, 0, 1, 1, 0, 1, 1, 2, 0, 2, 1, 0, 0).end();
    }

    // "a row (0 .. 30)"
    private static void rowsAtTheEdges() {
        laid(wall("row 0", sized(1, 1, 1)).due("fix(0, 0, 3)", true), 8, 1, 0, 3).end();
        laid(wall("row 30", sized(1, 6, 1)).due("fix(0, 30, 3)", true), 8, 36, 30, 3).end();
        for (String row : new String[] {"31", "-2", "-3", "MOST", "LEAST"}) {
            Run.busy(CHECK, "no such row").refused("fix(0, " + row + ", 0)", false).end();
            laid(wall("no such row", sized(1, 1, 1)).refused("fix(0, " + row + ", 0)", false), 8, 1, 0, 0).end();
        }
    }

    // "and column (0 .. 7)"
    private static void columnsAtTheEdges() {
        laid(wall("column 0", sized(1, 1, 1)).due("fix(0, 2, 0)", true), 1, 3, 2, 0).end();
        laid(wall("column 7", sized(1, 1, 1)).due("fix(0, 2, 7)", true), 8, 3, 2, 7).end();
        for (String column : new String[] {"8", "-1", "-2", "MOST", "LEAST"}) {
            Run.busy(CHECK, "no such column").refused("fix(0, 5, " + column + ")", false).end();
        }
    }

    // "or would be beyond column 7"
    private static void beyondColumnSeven() {
        for (int wide = 1; wide <= 8; wide++) {
            Run run = wall("wide " + wide, sized(wide, 1, 1)).due("fix(0, 4, " + (8 - wide) + ")", true);
            if (wide > 1) {
                run.refused("fix(0, 4, " + (9 - wide) + ")", false).refused("fix(0, 0, 7)", false);
            }
            laid(run.refused("fix(0, 4, 8)", false), 8, 5, 4, 8 - wide).end();
        }
    }

    // "it overlaps a FIXED one"
    private static void fixedOverAnother() {
        // b0 covers rows 2 and 3, columns 3 to 5; b1 is 2 wide and 2 high.
        int[][] over = {{1, 2}, {1, 5}, {3, 2}, {3, 5}, {2, 3}, {2, 4}, {1, 3}, {3, 4}};
        for (int[] place : over) {
            Run run = wall("overlaps", sized(3, 2, 1), sized(2, 2, 1)).due("fix(0, 2, 3)", true)
                .refused("fix(1, " + place[0] + ", " + place[1] + ")", false);
            laid(run, 8, 4, 2, 3, 0, 0).end();
        }
        int[][] beside = {{0, 3}, {4, 3}, {2, 1}, {2, 6}, {0, 1}, {0, 6}, {4, 1}, {4, 6}, {1, 1}, {3, 6}};
        for (int[] place : beside) {
            Run run = wall("beside", sized(3, 2, 1), sized(2, 2, 1)).due("fix(0, 2, 3)", true)
                .due("fix(1, " + place[0] + ", " + place[1] + ")", true);
            laid(run, 8, Math.max(4, place[0] + 2), 2, 3, place[0], place[1]).end();
        }
        // One within the other, either way; and one that is laid, but not fixed, is no hindrance.
        wall("within", sized(4, 4, 1), sized(1, 1, 1)).due("fix(0, 0, 0)", true).refused("fix(1, 2, 2)", false)
            .due("fix(0, NONE, 0)", true).due("fix(1, 2, 2)", true).refused("fix(0, 0, 0)", false).end();
        wall("laid only", sized(4, 4, 1), sized(1, 1, 1)).due("lay(8)", 4).due("fix(1, 0, 0)", true).due("at(1, 1)", 4)
            .due("at(0, 0)", 0).end();
        // The last row of one at row 30 is 35, beyond all rows that can be fixed.
        wall("below", sized(8, 6, 1), sized(1, 1, 1)).due("fix(0, 25, 0)", true).refused("fix(1, 30, 7)", false)
            .due("fix(0, 24, 0)", true).due("fix(1, 30, 7)", true).end();
    }

    // "it overlaps a FIXED one": not its own place; and a refused fix leaves it where it was
    private static void fixedAnew() {
        laid(wall("over itself", sized(2, 2, 1)).due("fix(0, 0, 0)", true).due("fix(0, 1, 1)", true)
            .due("fix(0, 1, 1)", true), 8, 3, 1, 1).end();
        Run run = wall("stays fixed", sized(2, 2, 1), sized(2, 2, 1)).due("fix(0, 3, 3)", true).due("fix(1, 3, 5)", true)
            .refused("fix(0, 3, 4)", false).refused("fix(0, 31, 0)", false).refused("fix(0, 0, 7)", false)
            .refused("fix(0, -2, 0)", false);
        laid(run, 8, 5, 3, 3, 3, 5).end();
    }

    // "or no more (row NONE): true"
    private static void fixedNoMore() {
        Run run = wall("no more", sized(2, 2, 1), sized(1, 1, 1)).due("fix(0, NONE, 0)", true).due("fix(0, 3, 3)", true)
            .due("fix(0, NONE, 0)", true).due("fix(1, 3, 3)", true).due("fix(0, NONE, 7)", true);
        laid(run, 8, 4, 0, 0, 3, 3).end();
        // Of a place that was fixed and laid nothing is left, in no row.
        int[] high = sized(1, 6, 1);
        Run moved = wall("moved", sized(1, 1, 1), high, high, high, high, high);
        for (int row = 0; row <= 30; row++) {
            moved.due("fix(0, " + row + ", 0)", true).calls("lay(1)").due("fix(0, NONE, 0)", true).due("lay(1)", 31);
        }
        moved.end();
    }

    // "NONE: no such w"
    private static void columnsOfTheWall() {
        for (String w : new String[] {"0", "9", "-1", "MOST", "LEAST"}) {
            Run.busy(CHECK, "no such w").refused("lay(" + w + ")", NONE).due("at(0, 0)", 0).end();
            wall("no such w", sized(1, 1, 1)).refused("lay(" + w + ")", NONE).due("at(0, 0)", NONE).end();
        }
        for (int w = 1; w <= 8; w++) {
            int[] one = sized(1, 1, 1);
            laid(wall("w columns", one, one, one, one, one, one), w, (5 + w) / w, 0, 0, 1 / w, 1 % w, 2 / w, 2 % w,
                3 / w, 3 % w, 4 / w, 4 % w, 5 / w, 5 % w).end();
        }
    }

    // "or a BOX (.. as wide) is beyond the columns"
    private static void asWideAsTheColumns() {
        for (int wide = 2; wide <= 8; wide++) {
            Run run = wall("as wide", sized(1, 1, 1), sized(wide, 1, 2)).refused("lay(" + (wide - 1) + ")", NONE)
                .due("at(0, 0)", NONE);
            laid(run, wide, 2, 1, 0, 0, 0).refused("lay(" + (wide - 1) + ")", NONE).due("at(0, 0)", 1).end();
        }
    }

    // "or a BOX (FIXED ..) is beyond the columns"
    private static void fixedBeyondTheColumns() {
        Run run = wall("fixed beyond", sized(2, 1, 1), sized(1, 1, 1)).due("fix(0, 0, 3)", true)
            .refused("lay(4)", NONE).refused("lay(3)", NONE).due("at(0, 1)", NONE);
        laid(run, 5, 1, 0, 3, 0, 0).refused("lay(4)", NONE).due("at(0, 1)", 3).due("fix(0, NONE, 0)", true);
        laid(run, 2, 2, 0, 0, 1, 0).end();
        laid(wall("fixed at the last column", sized(1, 1, 1)).due("fix(0, 0, 7)", true).refused("lay(7)", NONE),
            8, 1, 0, 7).end();
    }

    // "NONE: .. no BOXES"
    private static void noBoxes() {
        new Run(CHECK, "no boxes").refused("lay(1)", NONE).refused("lay(8)", NONE).due("at(0, 0)", NONE).end();
        new Run(CHECK, "no boxes", "let a=1;").refused("lay(8)", NONE).end();
    }

    // "each at the first row, in it the first column, where it has room"
    private static void firstRoom() {
        Run run = wall("first room", sized(1, 3, 1), sized(2, 1, 1), sized(3, 1, 9)).calls("fix(0, 0, 1)");
        // Left of the fixed one is one column, which is too narrow for both.
        laid(run, 5, 3, 0, 1, 1, 2, 0, 2);
        laid(run, 8, 3, 0, 1, 0, 2, 0, 4);
        // Two columns on each side of it: only b1 has room there.
        run.calls("fix(0, 0, 2)");
        laid(run, 5, 4, 0, 2, 0, 0, 3, 0);
        run.end();
    }

    // "Of all orders that by which the wall's HEIGHT .. is the least"
    private static void leastHeight() {
        laid(wall("least height", sized(2, 1, 3), sized(1, 1, 5), sized(1, 3, 1)), 2, 4, 0, 0, 1, 0, 1, 1).end();
        laid(wall("a fixed one far down", sized(1, 1, 1), sized(1, 1, 1)).calls("fix(1, 30, 0)"), 1, 31, 0, 0, 30, 0).end();
        laid(wall("rows up to the last one", sized(1, 6, 1), sized(1, 1, 1)).calls("fix(0, 30, 0)", "fix(1, 30, 1)"),
            2, 36, 30, 0, 30, 1).end();
    }

    // "worth times its first row, of all BOXES together, is the least"
    private static void leastWorthTimesRow() {
        int[] least = sized(1, 1, 999);
        int[] most = sized(1, 1, 1000);
        laid(wall("1000 is above 999", least, most), 1, 2, 1, 0, 0, 0).end();
        laid(wall("none of worth 0", sized(1, 1, 0), sized(1, 1, 1)), 1, 2, 1, 0, 0, 0).end();
        // 2 x 1 below 4 high is 8, as is 8 below 1 high: then the first order; a little more worth, and not.
        laid(wall("as much", sized(1, 4, 8), sized(1, 1, 2)), 1, 5, 0, 0, 4, 0).end();
        laid(wall("more", sized(1, 4, 8), sized(1, 1, 3)), 1, 5, 1, 0, 0, 0).end();
    }

    // "of these the first (the least BOX first, and so on)"
    private static void firstOrder() {
        int[] one = sized(1, 1, 7);
        laid(wall("the first order", one, one, one, one, one, one), 3, 2, 0, 0, 0, 1, 0, 2, 1, 0, 1, 1, 1, 2).end();
        laid(wall("of no worth", sized(2, 2, 0), sized(2, 2, 0), sized(2, 2, 0)), 2, 6, 0, 0, 2, 0, 4, 0).end();
        // The fixed one has no part in the order.
        laid(wall("beside a fixed one", one, one, one).calls("fix(0, 1, 0)"), 1, 3, 1, 0, 0, 0, 2, 0).end();
    }

    // "at the first row .. where it has room": as far down as that can be
    private static void highestWall() {
        int[] large = sized(8, 6, 1000);
        laid(wall("six large ones", large, large, large, large, large, large), 8, 36,
            0, 0, 6, 0, 12, 0, 18, 0, 24, 0, 30, 0).end();
        Run run = wall("round the fixed ones", large, large, large, large, large, large)
            .calls("fix(0, 30, 0)", "fix(1, 19, 0)", "fix(2, 8, 0)");
        laid(run, 8, 48, 30, 0, 19, 0, 8, 0, 0, 0, 36, 0, 42, 0).end();
        // Five rows are left on each side of the fixed ones, and none of them has room.
        Run none = wall("below the fixed ones", large, large, large, large, large, large)
            .calls("fix(0, 30, 0)", "fix(1, 19, 0)", "fix(2, 5, 0)", "fix(3, 11, 0)");
        laid(none, 8, 48, 30, 0, 19, 0, 5, 0, 11, 0, 36, 0, 42, 0).end();
    }

    // "NONE for others, or ahead of any since the text"
    private static void atTheEdges() {
        Run run = wall("at", sized(2, 1, 1), sized(1, 1, 1)).due("at(0, 0)", NONE).due("at(0, 1)", NONE);
        laid(run, 2, 2, 0, 0, 1, 0).due("at(0, -1)", NONE).due("at(0, 2)", NONE).due("at(0, MOST)", NONE)
            .due("at(0, LEAST)", NONE).due("at(-1, 0)", NONE).due("at(2, 0)", NONE).due("at(MOST, 1)", NONE)
            .due("at(LEAST, 1)", NONE).fault("?", 1, 0).due("at(1, 0)", 1);
        run.text(Check.box("a", 1, 1, "s0")).due("at(0, 0)", NONE).due("at(1, 0)", NONE).due("lay(1)", 1)
            .due("at(0, 0)", 0).due("at(1, 0)", NONE).end();
    }

    // "by the latest lay() that was not NONE"
    private static void latestLay() {
        Run run = wall("the latest", sized(2, 1, 1), sized(1, 1, 1));
        laid(run, 2, 2, 0, 0, 1, 0);
        laid(run, 3, 1, 0, 0, 0, 2);
        run.refused("lay(1)", NONE).refused("lay(0)", NONE).refused("lay(9)", NONE).due("at(1, 0)", 0).due("at(1, 1)", 2)
            .calls("fix(1, 4, 4)").due("at(1, 0)", 0).refused("lay(4)", NONE).due("at(1, 1)", 2).calls("tick()")
            .due("at(1, 1)", 2);
        laid(run, 5, 5, 0, 0, 4, 4).end();
    }
}
