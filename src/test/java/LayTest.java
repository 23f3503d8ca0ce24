/** Promises 22 to 24: fixing, laying, and where boxes stand. */
public final class LayTest {
    private static final int NONE = GaugeWall.NONE;
    private static final Check CHECK = new Check("LayTest");

    public static void main(String[] args) {
        fixing();
        fixingOver();
        fixingAgain();
        laying();
        beyondTheColumns();
        byHeight();
        byWorth();
        byOrder();
        roundTheFixed();
        farDown();
        latest();
        CHECK.finish();
    }

    /** Sizes and worths of boxes, three numbers each: wide, high, worth. */
    private static GaugeWall wall(int... sizes) {
        StringBuilder text = new StringBuilder();
        for (int k = 0; k * 3 < sizes.length; k++) {
            text.append(Check.sized("b" + k, sizes[k * 3 + 2], 1, sizes[k * 3], sizes[k * 3 + 1], "s0"));
        }
        return Check.wallOf(text.toString());
    }

    /** Where the boxes are due, row and column of each. */
    private static void dueLaid(GaugeWall x, int w, int height, int... places) {
        CHECK.due("lay(" + w + ")", x.lay(w), height);
        for (int n = 0; n < places.length; n++) {
            CHECK.due("at(" + n / 2 + ", " + n % 2 + ") by lay(" + w + ")", x.at(n / 2, n % 2), places[n]);
        }
    }

    // Promise 22
    private static void fixing() {
        GaugeWall x = wall(2, 6, 1, 8, 1, 1);
        CHECK.due("fix(2, 0, 0)", x.fix(2, 0, 0), false);
        CHECK.due("fix(-1, 0, 0)", x.fix(-1, 0, 0), false);
        CHECK.due("fix(-1, NONE, 0)", x.fix(-1, NONE, 0), false);
        CHECK.due("fix(0, 31, 0)", x.fix(0, 31, 0), false);
        CHECK.due("fix(0, -2, 0)", x.fix(0, -2, 0), false);
        CHECK.due("fix(0, 0, -1)", x.fix(0, 0, -1), false);
        CHECK.due("fix(0, 0, 8)", x.fix(0, 0, 8), false);
        CHECK.due("fix(0, 0, most)", x.fix(0, 0, Integer.MAX_VALUE), false);
        CHECK.due("fix(0, 0, 7) beyond 7", x.fix(0, 0, 7), false);
        dueLaid(x, 8, 7, 1, 0, 0, 0);
        CHECK.due("fix(0, 30, 6)", x.fix(0, 30, 6), true);
        CHECK.due("fix(1, 29, 1) beyond 7", x.fix(1, 29, 1), false);
        CHECK.due("fix(1, 29, 0)", x.fix(1, 29, 0), true);
        dueLaid(x, 8, 36, 30, 6, 29, 0);
        CHECK.due("fix(1, NONE, 0)", x.fix(1, NONE, 0), true);
        CHECK.due("fix(1, NONE, 0) again", x.fix(1, NONE, 0), true);
        CHECK.due("fix(0, NONE, 99)", x.fix(0, NONE, 99), true);
        dueLaid(x, 8, 7, 1, 0, 0, 0);
    }

    private static void fixingOver() {
        int[][] tries = {{0, 0, 1}, {0, 3, 0}, {1, 4, 0}, {2, 3, 0}, {2, 5, 0}, {3, 4, 1}, {2, 2, 1}, {2, 6, 1},
            {3, 3, 1}, {0, 4, 1}};
        for (int[] row : tries) {
            // A box of 3 x 2 at row 1, columns 3 to 5, and one of 1 x 1 or 1 x 2 beside it.
            GaugeWall x = wall(3, 2, 1, 1, row[0] == 0 && row[1] == 3 ? 2 : 1, 1);
            x.fix(0, 1, 3);
            CHECK.due("fix(1, " + row[0] + ", " + row[1] + ")", x.fix(1, row[0], row[1]), row[2] == 1);
        }
    }

    private static void fixingAgain() {
        GaugeWall x = wall(2, 2, 1, 2, 2, 1);
        CHECK.due("fix(0, 0, 0)", x.fix(0, 0, 0), true);
        CHECK.due("fix(0, 1, 1) over itself", x.fix(0, 1, 1), true);
        CHECK.due("fix(1, 0, 0) over it", x.fix(1, 0, 0), false);
        CHECK.due("fix(1, 1, 3) beside it", x.fix(1, 1, 3), true);
        CHECK.due("fix(0, 1, 2) over the other", x.fix(0, 1, 2), false);
        dueLaid(x, 5, 3, 1, 1, 1, 3);
        CHECK.due("fix(1, NONE, 0)", x.fix(1, NONE, 0), true);
        CHECK.due("fix(0, 1, 2)", x.fix(0, 1, 2), true);
    }

    // Promise 23
    private static void laying() {
        dueLaid(wall(2, 1, 1, 2, 1, 1, 2, 1, 1), 4, 2, 0, 0, 0, 2, 1, 0);
        dueLaid(wall(1, 1, 1), 1, 1, 0, 0);
        dueLaid(wall(8, 6, 1, 8, 6, 2, 8, 6, 3, 8, 6, 4, 8, 6, 5, 8, 6, 6), 8, 36,
            30, 0, 24, 0, 18, 0, 12, 0, 6, 0, 0, 0);
        GaugeWall x = wall(1, 1, 1);
        CHECK.due("lay(0)", x.lay(0), NONE);
        CHECK.due("lay(9)", x.lay(9), NONE);
        CHECK.due("lay(-1)", x.lay(-1), NONE);
        CHECK.due("lay(most)", x.lay(Integer.MAX_VALUE), NONE);
        CHECK.due("at(0, 0)", x.at(0, 0), NONE);
        CHECK.due("lay(8) of none", Check.wallOf("let a=1;").lay(8), NONE);
    }

    private static void beyondTheColumns() {
        GaugeWall x = wall(3, 1, 1, 1, 1, 1);
        CHECK.due("lay(2)", x.lay(2), NONE);
        dueLaid(x, 3, 2, 0, 0, 1, 0);
        x.fix(1, 0, 4);
        CHECK.due("lay(4)", x.lay(4), NONE);
        dueLaid(x, 5, 1, 0, 0, 0, 4);
        x.fix(0, 5, 5);
        CHECK.due("lay(7)", x.lay(7), NONE);
        dueLaid(x, 8, 6, 5, 5, 0, 4);
    }

    private static void byHeight() {
        dueLaid(wall(1, 1, 9, 2, 2, 1, 1, 1, 9, 2, 2, 1), 4, 3, 0, 0, 0, 2, 0, 1, 1, 0);
        // With the one of most worth in row 0 the sum would be 5, less than this one's 6, but the height 5.
        dueLaid(wall(2, 1, 3, 1, 1, 5, 1, 3, 1), 2, 4, 0, 0, 1, 0, 1, 1);
        // A gap below is filled by a later one.
        dueLaid(wall(3, 1, 9, 2, 2, 5, 1, 3, 1), 3, 4, 0, 0, 1, 0, 1, 2);
    }

    private static void byWorth() {
        dueLaid(wall(2, 1, 1, 2, 1, 5, 2, 1, 3), 2, 3, 2, 0, 0, 0, 1, 0);
        // The wall's height comes first: the one of worth is not laid first.
        dueLaid(wall(2, 3, 1, 2, 1, 1000), 2, 4, 1, 0, 0, 0);
        // What has no worth goes below, whatever its number.
        dueLaid(wall(1, 1, 0, 1, 1, 0, 1, 1, 7), 1, 3, 1, 0, 2, 0, 0, 0);
    }

    private static void byOrder() {
        dueLaid(wall(1, 1, 4, 1, 1, 4, 1, 1, 4, 1, 1, 4), 2, 2, 0, 0, 0, 1, 1, 0, 1, 1);
        dueLaid(wall(1, 2, 2, 1, 1, 1), 1, 3, 0, 0, 2, 0);
        // Either one first makes 4: 4 x 1 or 1 x 4.
        dueLaid(wall(1, 1, 1, 1, 4, 4), 1, 5, 0, 0, 1, 0);
        // 0, 2, 1 and 2, 0, 1 are as good, and boxes stand elsewhere.
        dueLaid(wall(2, 2, 4, 1, 2, 3, 1, 1, 5), 3, 3, 0, 0, 1, 2, 0, 2);
    }

    private static void roundTheFixed() {
        GaugeWall x = wall(2, 2, 1, 1, 1, 1, 3, 1, 1);
        x.fix(0, 1, 1);
        dueLaid(x, 4, 3, 1, 1, 0, 0, 0, 1);
        x.fix(0, 0, 0);
        dueLaid(x, 4, 3, 0, 0, 0, 2, 2, 0);
        // All are fixed.
        x.fix(1, 9, 3);
        x.fix(2, 4, 1);
        dueLaid(x, 4, 10, 0, 0, 9, 3, 4, 1);
    }

    private static void farDown() {
        // 36 rows with the fixed one in the middle of the wall, and nothing beside it.
        GaugeWall x = wall(8, 6, 1, 8, 6, 1, 8, 6, 1, 8, 6, 1, 8, 6, 1, 8, 6, 1);
        int[] rows = {30, 25, 20, 15, 10};
        for (int k = 0; k < rows.length; k++) {
            CHECK.due("fix(" + k + ", " + rows[k] + ", 0)", x.fix(k, rows[k], 0), k == 0 || k % 2 == 0);
        }
        // Fixed are 30 .. 35, 20 .. 25, 10 .. 15: only rows 0 .. 9 have room for one of the three others.
        dueLaid(x, 8, 48, 30, 0, 0, 0, 20, 0, 36, 0, 10, 0, 42, 0);
    }

    // Promise 24
    private static void latest() {
        GaugeWall x = wall(2, 1, 1, 1, 1, 1);
        CHECK.due("at(0, 0) ahead of any", x.at(0, 0), NONE);
        dueLaid(x, 2, 2, 0, 0, 1, 0);
        x.fix(1, 5, 5);
        CHECK.due("at(1, 0) behind fix", x.at(1, 0), 1);
        CHECK.due("lay(2)", x.lay(2), NONE);
        CHECK.due("at(1, 0) behind a lay that was none", x.at(1, 0), 1);
        CHECK.due("at(2, 0)", x.at(2, 0), NONE);
        CHECK.due("at(-1, 0)", x.at(-1, 0), NONE);
        CHECK.due("at(0, 2)", x.at(0, 2), NONE);
        CHECK.due("at(0, -1)", x.at(0, -1), NONE);
        dueLaid(x, 6, 6, 0, 0, 5, 5);
    }
}
