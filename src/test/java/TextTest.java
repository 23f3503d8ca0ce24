/** Promises 1 to 5: a new object, the tape, reading and faults. */
public final class TextTest {
    private static final int NONE = GaugeWall.NONE;
    private static final Check CHECK = new Check("TextTest");

    private static final String HEAD = "box b worth 1 fresh 1 size 1 1 = ";

    public static void main(String[] args) {
        newObject();
        tape();
        readingEmptiesTheTape();
        faultyTextChangesNothing();
        newTextStartsAnew();
        tokens();
        syntax();
        roomOfTokens();
        roomOfTells();
        roomOfBrackets();
        twice();
        names();
        wrongNumbers();
        boxesWithoutSources();
        firstByPlace();
        CHECK.finish();
    }

    // Promise 1
    private static void newObject() {
        GaugeWall x = new GaugeWall();
        int[] counts = {0, 0, 0, 0, 0, 0, 0, 60, 0, 0};
        for (int what = 0; what < counts.length; what++) {
            CHECK.due("new count(" + what + ")", x.count(what), counts[what]);
        }
        CHECK.due("new place()", x.place(), NONE);
        CHECK.due("new left()", x.left(), NONE);
        CHECK.due("new planned(0)", x.planned(0), NONE);
        CHECK.due("new follow()", x.follow(), NONE);
        CHECK.due("new at(0, 0)", x.at(0, 0), NONE);
        CHECK.due("new let(0)", x.let(0), 0);
        CHECK.due("new unseen(1, 0)", x.unseen(1, 0), NONE);
        CHECK.due("new look(0)", x.look(0), false);
        CHECK.due("new fix(0, 0, 0)", x.fix(0, 0, 0), false);
        CHECK.due("new lay(8)", x.lay(8), NONE);
        CHECK.due("new plan(1, 1)", x.plan(1, 1), NONE);
        CHECK.due("new plan(0, 1)", x.plan(0, 1), NONE);
        CHECK.due("new shows(0)", x.shows(0), 0);
        CHECK.due("new showed(0, 0)", x.showed(0, 0), 0);
        CHECK.due("new aged(0, 0)", x.aged(0, 0), NONE);
        CHECK.due("new box(0, 7)", x.box(0, 7), NONE);
    }

    // Promises 2 and 3
    private static void tape() {
        GaugeWall x = new GaugeWall();
        for (int n = 1; n <= 100; n++) {
            CHECK.due("feed " + n, x.feed(1, 2, 3, 4, 5), 20 * n);
        }
        CHECK.due("feed beyond 2,000", x.feed(1, 2, 3, 4, 5), NONE);
        CHECK.due("bytes", x.count(9), 2000);
        CHECK.due("back(19)", x.back(19), 1981);
        CHECK.due("feed to 2,001", x.feed(1, 2, 3, 4, 5), NONE);
        CHECK.due("back(0)", x.back(0), 1981);
        CHECK.due("back(1)", x.back(1), 1980);
        CHECK.due("feed to 2,000", x.feed(1, 2, 3, 4, 5), 2000);
        CHECK.due("back(-1)", x.back(-1), NONE);
        CHECK.due("back(least)", x.back(Integer.MIN_VALUE), NONE);
        CHECK.due("back(2001)", x.back(2001), NONE);
        CHECK.due("back(most)", x.back(Integer.MAX_VALUE), NONE);
        CHECK.due("bytes", x.count(9), 2000);
        CHECK.due("back(2000)", x.back(2000), 0);
        CHECK.due("back(1) of none", x.back(1), NONE);
        CHECK.due("back(0) of none", x.back(0), 0);

        // "let aaaa=9;let bbb=8" and ";let c=aaaa;" behind what was taken back.
        GaugeWall y = new GaugeWall();
        Check.feed(y, "let aaaa=9;let bbb=8;zz");
        y.back(2);
        Check.feed(y, "let c=aaaa*10+bbb;");
        CHECK.due("read()", y.read(), 0);
        CHECK.due("let(2)", y.let(2), 98);

        // A byte with its highest bit set is no token, and the highest byte comes first.
        GaugeWall z = new GaugeWall();
        z.feed(0x202020ff, 0, 0, 0, 0);
        CHECK.due("read()", z.read(), 1);
        CHECK.due("place()", z.place(), 3);
        z.feed(0x20202020, 0x20202020, 0x20202020, 0x20202020, 0x09200a0d);
        CHECK.due("read() of blanks", z.read(), 0);
    }

    // Promise 4
    private static void readingEmptiesTheTape() {
        GaugeWall x = new GaugeWall();
        Check.feed(x, "let");
        CHECK.due("read()", x.read(), 1);
        CHECK.due("place()", x.place(), 3);
        CHECK.due("bytes", x.count(9), 0);
        CHECK.due("read() of nothing", x.read(), 0);
        CHECK.due("place()", x.place(), NONE);
        Check.feed(x, "let a=1;");
        CHECK.due("read()", x.read(), 0);
        CHECK.due("bytes", x.count(9), 0);
        CHECK.due("lets", x.count(1), 1);
        CHECK.due("read() of nothing", x.read(), 0);
        CHECK.due("lets", x.count(1), 0);
    }

    private static void faultyTextChangesNothing() {
        GaugeWall x = Check.wallOf("let a=s0+1;" + Check.box("b", 7, 2, "a") + Check.box("c", 8, 2, "s1"));
        x.value(0, 0, 4);
        x.ask(1);
        x.look(1);
        x.plan(3, 2);
        x.fix(0, 3, 0);
        x.lay(4);
        CHECK.dueFault(x, "let a=s1;let q=zz;", 4, 15);
        CHECK.dueFault(x, "let a=s1;+", 1, 9);
        CHECK.due("boxes", x.count(0), 2);
        CHECK.due("let(0)", x.let(0), 5);
        CHECK.due("shows(0)", x.shows(0), 5);
        CHECK.due("worth", x.box(0, 0), 7);
        CHECK.due("looks", x.box(1, 7), 1);
        CHECK.due("planned(0)", x.planned(0), 2);
        CHECK.due("left()", x.left(), 0);
        CHECK.due("at(0, 0)", x.at(0, 0), 3);
        x.tick();
        x.ask(1);
        CHECK.due("shows(0)", x.shows(0), 5);
        CHECK.due("lay(4) with one fixed", x.lay(4), 4);
    }

    private static void newTextStartsAnew() {
        String text = Check.box("b", 7, 2, "s0");
        GaugeWall x = Check.wallOf(text);
        x.cost(0, 3);
        x.budget(20);
        x.value(0, 0, 4);
        x.ask(1);
        x.tick();
        x.ask(1);
        x.look(0);
        x.plan(1, 2);
        x.fix(0, 3, 0);
        x.lay(4);
        CHECK.dueFault(x, text, 0, NONE);
        CHECK.due("shows(0)", x.shows(0), 0);
        CHECK.due("showed(0, 0)", x.showed(0, 0), 0);
        CHECK.due("aged(0, 0)", x.aged(0, 0), NONE);
        CHECK.due("aged(0, 1)", x.aged(0, 1), NONE);
        CHECK.due("stale", x.box(0, 5), 1);
        CHECK.due("age", x.box(0, 6), NONE);
        CHECK.due("looks", x.box(0, 7), 0);
        CHECK.due("latest look", x.box(0, 8), NONE);
        CHECK.due("renewed", x.box(0, 9), 0);
        CHECK.due("unseen(400, 0)", x.unseen(400, 0), 0);
        CHECK.due("left()", x.left(), NONE);
        CHECK.due("planned(0)", x.planned(0), NONE);
        CHECK.due("follow()", x.follow(), NONE);
        CHECK.due("at(0, 0)", x.at(0, 0), NONE);
        CHECK.due("lay(4) with none fixed", x.lay(4), 1);
        CHECK.due("now", x.count(2), 1);
        CHECK.due("facts", x.count(3), 1);
        CHECK.due("spent", x.count(4), 3);
        CHECK.due("spent in all", x.count(5), 6);
        CHECK.due("asked", x.count(6), 1);
        CHECK.due("budget", x.count(7), 20);
        // What is asked in this tick already is asked for the new boxes, too.
        CHECK.due("plan(1, 1)", x.plan(1, 1), 0);
        CHECK.due("left()", x.left(), 0);
        CHECK.due("follow()", x.follow(), 1);
        CHECK.due("shows(0)", x.shows(0), 4);
        CHECK.due("spent", x.count(4), 3);
    }

    private static void tokens() {
        CHECK.dueSound("");
        CHECK.dueSound(" \t\n\r");
        CHECK.dueSound("let abcdefgh=1;");
        CHECK.dueFault("let abcdefghi=1;", 1, 4);
        CHECK.dueFault("let a1234567=12345;", 1, 13);
        CHECK.dueSound("let a1234567=1234;");
        CHECK.dueSound("let a=0000;");
        CHECK.dueFault("let A=1;", 1, 4);
        CHECK.dueFault("let aB=1;", 1, 5);
        CHECK.dueFault("let a=1/2;", 1, 7);
        CHECK.dueFault("let a=1;\u0000", 1, 8);
        CHECK.dueFault("let a=1;\u000b", 1, 8);
        CHECK.dueFault("let 1a=1;", 1, 4);
        CHECK.dueFault("let_a=1;", 1, 3);
        CHECK.dueSound("box b worth 5fresh 2size 1 1=s0;");
        CHECK.dueFault("boxb worth 5fresh 2size 1 1=s0;", 1, 0);
        CHECK.dueFault("box b worth 5 fresh 2 size 11=s0;", 1, 29);
        CHECK.dueFault("box b worth5 fresh 2 size 1 1=s0;", 1, 6);
        CHECK.dueSound("let\na\t=\r1 ; let lets = min ( 1 , a ) ; let min1=lets;let s6=1;let s00=s6;");
        for (String word : new String[] {"let", "box", "worth", "fresh", "size", "min", "max"}) {
            CHECK.dueFault("let " + word + "=1;", 1, 4);
            CHECK.dueSound("let " + word + "x=1;");
            CHECK.dueSound("let x" + word + "=1;");
        }
    }

    private static void syntax() {
        CHECK.dueFault("let a=1", 1, 7);
        CHECK.dueFault("let a=1  \n", 1, 10);
        CHECK.dueFault("let", 1, 3);
        CHECK.dueFault("let a", 1, 5);
        CHECK.dueFault("let a=", 1, 6);
        CHECK.dueFault("let a=;", 1, 6);
        CHECK.dueFault("let a=1;;", 1, 8);
        CHECK.dueFault("a=1;", 1, 0);
        CHECK.dueFault("let a=-1;", 1, 6);
        CHECK.dueFault("let a=1 2;", 1, 8);
        CHECK.dueFault("let a=1+;", 1, 8);
        CHECK.dueFault("let a=1+*2;", 1, 8);
        CHECK.dueFault("let a=(1;", 1, 8);
        CHECK.dueFault("let a=(1,2);", 1, 8);
        CHECK.dueFault("let a=();", 1, 7);
        CHECK.dueFault("let a=1);", 1, 7);
        CHECK.dueFault("let a=min 1,2);", 1, 10);
        CHECK.dueFault("let a=min(1);", 1, 11);
        CHECK.dueFault("let a=min(1,2,3);", 1, 13);
        CHECK.dueFault("let a=min(1,2;", 1, 13);
        CHECK.dueFault("let a=max(,2);", 1, 10);
        CHECK.dueFault("let a=1,2;", 1, 7);
        CHECK.dueFault("let a=1=2;", 1, 7);
        CHECK.dueFault("let a=let;", 1, 6);
        CHECK.dueFault("box b fresh 1 worth 1 size 1 1=s0;", 1, 6);
        CHECK.dueFault("box b worth 1 fresh 1 size 1=s0;", 1, 28);
        CHECK.dueFault("box b worth s0 fresh 1 size 1 1=s0;", 1, 12);
        CHECK.dueFault("box b worth 1 fresh 1 size 1 1 s0;", 1, 31);
        CHECK.dueFault("box b=s0;", 1, 5);
        CHECK.dueFault("let a worth 1=s0;", 1, 6);
        CHECK.dueSound("let a=((1)+2*(3-min(4,5*max(6,7)))-8)*9;");
    }

    /** A let of n tokens, n odd and 5 at least. */
    private static String longLet(String name, int n) {
        return "let " + name + "=1" + "+1".repeat((n - 5) / 2) + ";";
    }

    private static void roomOfTokens() {
        CHECK.dueSound(longLet("a", 395) + "let b=1;");
        String even = longLet("a", 395) + "let b=1;";
        CHECK.dueFault(even + "let c=1;", 2, even.length());
        CHECK.dueFault(even + "x", 1, even.length());
        CHECK.dueFault(even + " ?", 1, even.length() + 1);
        CHECK.dueSound(even + "  ");
        // 399 tokens, then each of those of one more let in turn.
        String odd = longLet("a", 399);
        CHECK.dueFault(odd + "let b=1;", 2, odd.length() + 4);
        CHECK.dueFault(odd + "let", 1, odd.length() + 3);
        CHECK.dueFault(odd + "let let", 1, odd.length() + 4);
        String open = longLet("a", 401);
        CHECK.dueFault(open, 2, open.length() - 1);
        CHECK.dueFault(open.substring(0, open.length() - 1) + ",", 1, open.length() - 1);
        CHECK.dueFault(open.substring(0, open.length() - 1), 1, open.length() - 1);
        CHECK.dueFault(longLet("a", 403), 2, open.length() - 1);
        // What stands behind the first fault is not looked at.
        CHECK.dueFault(open + "????", 2, open.length() - 1);
    }

    private static void roomOfTells() {
        StringBuilder lets = new StringBuilder();
        for (int k = 0; k < 12; k++) {
            lets.append("let a").append(k).append("=").append(k).append(";");
        }
        StringBuilder boxes = new StringBuilder();
        for (int k = 0; k < 6; k++) {
            boxes.append(Check.box("b" + k, k, 1, "s" + k));
        }
        String all = lets.toString() + boxes;
        CHECK.dueSound(all);
        CHECK.dueSound(boxes.toString() + lets);
        CHECK.dueFault(all + "let x=1;", 2, all.length());
        CHECK.dueFault(all + " box", 2, all.length() + 1);
        CHECK.dueFault(all + "let", 2, all.length());
        CHECK.dueFault(lets + "let x=1;", 2, lets.length());
        CHECK.dueFault(boxes + Check.box("x", 1, 1, "s0"), 2, boxes.length());
        // Room comes ahead of names, wherever they are.
        CHECK.dueFault("let s0=1;" + lets.substring(9) + "let y=1;let z=1;", 2, lets.length());
        GaugeWall x = Check.wallOf(all);
        CHECK.due("boxes", x.count(0), 6);
        CHECK.due("lets", x.count(1), 12);
        CHECK.due("let(11)", x.let(11), 11);
        CHECK.due("let(12)", x.let(12), 0);
        CHECK.due("box(5, 0)", x.box(5, 0), 5);
        CHECK.due("box(5, 4)", x.box(5, 4), 32);
        CHECK.due("box(6, 0)", x.box(6, 0), NONE);
    }

    private static void roomOfBrackets() {
        CHECK.dueSound("let a=" + "(".repeat(8) + "1" + ")".repeat(8) + ";");
        CHECK.dueFault("let a=" + "(".repeat(9) + "1" + ")".repeat(9) + ";", 2, 14);
        CHECK.dueFault("let a=" + "(".repeat(9), 2, 14);
        CHECK.dueFault("let a=" + "(".repeat(8), 1, 14);
        CHECK.dueSound("let a=" + "min(".repeat(8) + "1" + ",2)".repeat(8) + ";");
        CHECK.dueFault("let a=" + "max(".repeat(8) + "(1)" + ",2)".repeat(8) + ";", 2, 38);
        CHECK.dueFault("let a=" + "(".repeat(8) + "min 1", 1, 18);
        CHECK.dueFault("let a=" + "(".repeat(8) + "min(1", 2, 17);
        CHECK.dueSound("let a=" + "max(1,".repeat(8) + "1" + ")".repeat(8) + "+" + "(".repeat(8) + "1" + ")".repeat(8) + ";");
        GaugeWall x = Check.wallOf("let a=1+2*max(1+2*(1+2*max(1+2*(1+2*max(1+2*(1+2*max(1+2*(2),0)),0)),0)),0);");
        CHECK.due("let(0)", x.let(0), 767);
    }

    private static void twice() {
        for (int s = 0; s < 6; s++) {
            CHECK.dueFault("let s" + s + "=1;", 3, 4);
        }
        CHECK.dueFault("box s5 worth 1 fresh 1 size 1 1=s0;", 3, 4);
        CHECK.dueFault("let a=1;let a=2;", 3, 12);
        CHECK.dueFault("let a=1;box a worth 1 fresh 1 size 1 1=s0;", 3, 12);
        String box = Check.box("a", 1, 1, "s0");
        CHECK.dueFault(box + box, 3, box.length() + 4);
        CHECK.dueFault(box + "let a=1;", 3, box.length() + 4);
        // Of one place the least.
        CHECK.dueFault(box + Check.box("a", 1, 1, "1"), 3, box.length() + 4);
        CHECK.dueFault("let a=1;let a=zz;", 3, 12);
    }

    private static void names() {
        CHECK.dueFault("let a=b;", 4, 6);
        CHECK.dueFault("let a=a;", 4, 6);
        CHECK.dueFault("let a=s6;", 4, 6);
        CHECK.dueFault("let a=s;", 4, 6);
        CHECK.dueFault("let a=s00;", 4, 6);
        CHECK.dueFault("let a=b;let b=1;", 4, 6);
        CHECK.dueFault(HEAD + "b+s0;", 4, HEAD.length());
        CHECK.dueFault(HEAD + "s0;let c=b;", 4, HEAD.length() + 9);
        CHECK.dueFault("let a=1+min(s0,x)+y;", 4, 15);
        CHECK.dueSound("let a=s0;let b=a*a;let c=b+a-s5;");
    }

    private static void wrongNumbers() {
        CHECK.dueSound("box b worth 0 fresh 1 size 1 1=s0;");
        CHECK.dueSound("box b worth 1000 fresh 6 size 8 6=s0;");
        CHECK.dueFault("box b worth 1001 fresh 1 size 1 1=s0;", 5, 12);
        CHECK.dueFault("box b worth 9999 fresh 9 size 1 1=s0;", 5, 12);
        CHECK.dueFault("box b worth 1 fresh 0 size 1 1=s0;", 5, 20);
        CHECK.dueFault("box b worth 1 fresh 7 size 0 1=s0;", 5, 20);
        CHECK.dueFault("box b worth 1 fresh 1 size 0 1=s0;", 5, 27);
        CHECK.dueFault("box b worth 1 fresh 1 size 9 7=s0;", 5, 27);
        CHECK.dueFault("box b worth 1 fresh 1 size 8 0=s0;", 5, 29);
        CHECK.dueFault("box b worth 1 fresh 1 size 8 7=s0;", 5, 29);
        CHECK.dueFault("box b worth 1 fresh 1 size 8 7=x;", 5, 29);
    }

    private static void boxesWithoutSources() {
        CHECK.dueFault(HEAD + "1;", 5, 4);
        CHECK.dueFault("let a=1;" + HEAD + "a*2;", 5, 12);
        CHECK.dueSound("let a=s0*0;" + HEAD + "a*2;");
        CHECK.dueFault(HEAD + "x;", 4, HEAD.length());
        CHECK.dueFault(HEAD + "b;", 4, HEAD.length());
        CHECK.dueFault("let a=1;" + HEAD + "a*x;", 4, HEAD.length() + 10);
        CHECK.dueFault("box b worth 1001 fresh 1 size 1 1=1;", 5, 4);
        CHECK.dueFault("box b worth 1001 fresh 1 size 1 1=x;", 5, 12);
        CHECK.dueFault("box s0 worth 1001 fresh 1 size 1 1=1;", 3, 4);
    }

    private static void firstByPlace() {
        CHECK.dueFault("let s0=1;let", 1, 12);
        CHECK.dueFault("let a=x;let s0=1;", 4, 6);
        CHECK.dueFault("let s0=x;", 3, 4);
        CHECK.dueFault(HEAD + "s0+x;" + HEAD + "1;", 4, HEAD.length() + 3);
        CHECK.dueFault(HEAD + "1;let s1=1;", 5, 4);
    }
}
