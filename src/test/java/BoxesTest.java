/** Promises 12 to 17 and 25: looking, what boxes show and showed, their numbers, lets, the unseen. */
public final class BoxesTest {
    private static final int NONE = GaugeWall.NONE;
    private static final Check CHECK = new Check("BoxesTest");

    public static void main(String[] args) {
        looks();
        shows();
        showed();
        numbers();
        ownCosts();
        ages();
        lets();
        sums();
        wrapping();
        unseen();
        CHECK.finish();
    }

    // Promise 12
    private static void looks() {
        GaugeWall x = Check.wallOf(Check.box("a", 1, 1, "s0") + Check.box("b", 1, 1, "s1"));
        CHECK.due("look(0)", x.look(0), true);
        CHECK.due("look(0)", x.look(0), true);
        CHECK.due("look(2)", x.look(2), false);
        CHECK.due("look(-1)", x.look(-1), false);
        Check.ticks(x, 3);
        CHECK.due("looks", x.box(0, 7), 2);
        CHECK.due("latest", x.box(0, 8), 0);
        CHECK.due("look(0)", x.look(0), true);
        CHECK.due("looks", x.box(0, 7), 3);
        CHECK.due("latest", x.box(0, 8), 3);
        CHECK.due("looks at the other", x.box(1, 7), 0);
        CHECK.due("latest at the other", x.box(1, 8), NONE);
    }

    // Promise 13
    private static void shows() {
        GaugeWall x = Check.wallOf("let m=min(s0,s1);" + Check.box("a", 1, 1, "m*2-s2") + Check.box("b", 1, 1, "s1"));
        x.value(0, 0, 10);
        x.value(1, 0, -20);
        x.value(2, 0, 5);
        CHECK.due("shows(0) ahead", x.shows(0), 0);
        CHECK.due("ask(3)", x.ask(3), 1);
        CHECK.due("shows(0) without all sources", x.shows(0), 0);
        CHECK.due("shows(1)", x.shows(1), -20);
        CHECK.due("ask(4)", x.ask(4), 1);
        CHECK.due("shows(0)", x.shows(0), -45);
        CHECK.due("shows(2)", x.shows(2), 0);
        CHECK.due("shows(-1)", x.shows(-1), 0);
        // A box shows values of one tick only: what was asked in the last one is gone.
        x.tick();
        x.value(0, 1, -100);
        x.ask(1);
        CHECK.due("shows(0)", x.shows(0), -45);
        x.tick();
        CHECK.due("ask(6)", x.ask(6), 1);
        CHECK.due("shows(0)", x.shows(0), -45);
        CHECK.due("ask(1)", x.ask(1), 1);
        CHECK.due("shows(0)", x.shows(0), -205);
    }

    // Promise 14
    private static void showed() {
        GaugeWall x = Check.wallOf(Check.box("a", 1, 1, "s0"));
        x.value(0, 0, 1);
        x.value(0, 2, 3);
        x.value(0, 4, 5);
        x.tick();
        x.ask(1);
        Check.ticks(x, 3);
        x.ask(1);
        Check.ticks(x, 1);
        long[] due = {0, 1, 1, 1, 5, 5};
        for (int t = 0; t < due.length; t++) {
            CHECK.due("showed(0, " + t + ")", x.showed(0, t), due[t]);
        }
        CHECK.due("showed(0, 6)", x.showed(0, 6), 0);
        CHECK.due("showed(0, -1)", x.showed(0, -1), 0);
        CHECK.due("showed(1, 1)", x.showed(1, 1), 0);
        CHECK.due("showed(-1, 1)", x.showed(-1, 1), 0);
        CHECK.due("showed(0, most)", x.showed(0, Integer.MAX_VALUE), 0);
    }

    // Promise 15
    private static void numbers() {
        GaugeWall x = Check.wallOf(Check.sized("a", 1000, 6, 8, 5, "s0*s5") + Check.sized("b", 0, 1, 1, 6, "s5"));
        int[] first = {1000, 6, 8, 5, 33, 1, NONE, 0, NONE, 0, 1, NONE};
        for (int what = 0; what < first.length; what++) {
            CHECK.due("box(0, " + what + ")", x.box(0, what), first[what]);
        }
        CHECK.due("box(0, -1)", x.box(0, -1), NONE);
        CHECK.due("box(2, 0)", x.box(2, 0), NONE);
        CHECK.due("box(-1, 0)", x.box(-1, 0), NONE);
        x.ask(33);
        x.ask(33);
        x.tick();
        x.ask(32);
        int[] second = {0, 1, 1, 6, 32, 0, 0, 0, NONE, 2, 0};
        for (int what = 0; what < second.length; what++) {
            CHECK.due("box(1, " + what + ")", x.box(1, what), second[what]);
        }
        CHECK.due("renewed once a tick", x.box(0, 9), 1);
        Check.ticks(x, 1);
        CHECK.due("b is not stale yet", x.box(1, 5), 0);
        Check.ticks(x, 1);
        CHECK.due("b is stale", x.box(1, 5), 1);
        Check.ticks(x, 3);
        CHECK.due("a is not stale yet", x.box(0, 5), 0);
        CHECK.due("age of a", x.box(0, 6), 6);
        Check.ticks(x, 1);
        CHECK.due("a is stale", x.box(0, 5), 1);
        CHECK.due("age of a", x.box(0, 6), 7);
    }

    private static void ownCosts() {
        GaugeWall x = Check.wallOf("let l=s0+s1;let m=l*0+s2;"
            + Check.box("a", 1, 1, "m") + Check.box("b", 1, 1, "s1") + Check.box("c", 1, 1, "s3+s4+s1"));
        for (int s = 0; s < 6; s++) {
            x.cost(s, s + 2);
        }
        CHECK.due("sources of a, by lets of lets", x.box(0, 4), 7);
        CHECK.due("own costs of a", x.box(0, 10), 6);
        CHECK.due("own costs of b", x.box(1, 10), 0);
        CHECK.due("own costs of c", x.box(2, 10), 11);
        GaugeWall y = Check.wallOf("let l=s0+s1;" + Check.box("a", 1, 1, "s5+l*s3+l"));
        CHECK.due("sources of its E and of its lets", y.box(0, 4), 43);
    }

    // Promise 16
    private static void ages() {
        GaugeWall x = Check.wallOf(Check.box("a", 1, 1, "s0"));
        x.tick();
        x.ask(1);
        Check.ticks(x, 3);
        x.ask(1);
        Check.ticks(x, 1);
        int[] due = {NONE, 0, 1, 2, 0, 1, NONE};
        for (int t = 0; t < due.length; t++) {
            CHECK.due("aged(0, " + t + ")", x.aged(0, t), due[t]);
        }
        CHECK.due("aged(0, -1)", x.aged(0, -1), NONE);
        CHECK.due("aged(1, 1)", x.aged(1, 1), NONE);
        CHECK.due("aged(-1, 1)", x.aged(-1, 1), NONE);
    }

    // Promise 17
    private static void lets() {
        GaugeWall x = Check.wallOf("let a=s0;" + Check.box("q", 1, 1, "a") + "let b=a*a+s1;");
        x.value(0, 0, 5);
        x.value(1, 1, 7);
        x.down(0, 0, 3);
        CHECK.due("let(0), while down", x.let(0), 5);
        CHECK.due("let(1)", x.let(1), 25);
        x.tick();
        CHECK.due("let(1)", x.let(1), 32);
        CHECK.due("let(2)", x.let(2), 0);
        CHECK.due("let(-1)", x.let(-1), 0);
        CHECK.due("a let asks nothing", x.count(6), 0);
    }

    private static void sums() {
        String[] texts = {"1+2*3", "10-3-2", "2*(3+4)", "min(3,4)*10+max(3,4)", "7-2*3+1", "(((5)))", "0*9-1",
            "max(0-5,min(2,1))", "2*3*4-5*6", "9999*9999"};
        long[] due = {7, 5, 14, 34, 2, 5, -1, 1, -6, 99980001};
        for (int n = 0; n < texts.length; n++) {
            CHECK.due(texts[n], Check.wallOf("let a=" + texts[n] + ";").let(0), due[n]);
        }
    }

    private static void wrapping() {
        GaugeWall x = Check.wallOf("let a=s0*s0;let b=a*s0;let c=b*2;let d=0-a*2;let e=d-1;" + Check.box("q", 1, 1, "e"));
        x.value(0, 0, Integer.MIN_VALUE);
        CHECK.due("2^62", x.let(0), 1L << 62);
        CHECK.due("-2^93", x.let(1), 0);
        CHECK.due("-2^63", x.let(3), Long.MIN_VALUE);
        CHECK.due("wrapped", x.let(4), Long.MAX_VALUE);
        x.ask(1);
        CHECK.due("shows", x.shows(0), Long.MAX_VALUE);
    }

    // Promise 25
    private static void unseen() {
        GaugeWall x = Check.wallOf(Check.box("a", 1, 1, "s0") + Check.box("b", 1, 1, "s0")
            + Check.box("c", 1, 1, "s0") + Check.box("d", 1, 1, "s0"));
        x.look(0);
        Check.ticks(x, 2);
        x.look(2);
        Check.ticks(x, 2);
        // Now is 4: a was looked at in 0, c in 2.
        int[][] due = {{1, 0, 1, 2, 3, NONE}, {2, 0, 1, 2, 3, NONE}, {3, 0, 1, 3, NONE}, {4, 0, 1, 3, NONE},
            {5, 1, 3, NONE}, {400, 1, 3, NONE}, {0, NONE}, {401, NONE}, {-1, NONE}, {Integer.MIN_VALUE, NONE}};
        for (int[] row : due) {
            for (int i = 0; i + 1 < row.length; i++) {
                CHECK.due("unseen(" + row[0] + ", " + i + ")", x.unseen(row[0], i), row[i + 1]);
            }
        }
        CHECK.due("unseen(5, -1)", x.unseen(5, -1), NONE);
        CHECK.due("unseen(5, most)", x.unseen(5, Integer.MAX_VALUE), NONE);
        x.look(0);
        CHECK.due("unseen(1, 0)", x.unseen(1, 0), 1);
    }
}
