/** The edges of the tape and of its text: part II of the terms, and promises 1 to 5. */
public final class TextEdgesTest {
    private static final int NONE = GaugeWall.NONE;
    private static final Check CHECK = new Check("TextEdgesTest");

    private static final int SYNTAX = 1;
    private static final int ROOM = 2;
    private static final int TWICE = 3;
    private static final int NAME = 4;
    private static final int WRONG = 5;

    private static final String BLANKS = "\t\n\r ";
    private static final String DIGITS = "0123456789";
    private static final String LETTERS = "abcdefghijklmnopqrstuvwxyz";
    private static final String[] WORDS = {"let", "box", "worth", "fresh", "size", "min", "max"};
    private static final String FEED = "feed(538976288, 538976288, 538976288, 538976288, 538976288)";
    private static final String HEAD = "box b worth 1 fresh 1 size 1 1=";

    public static void main(String[] args) {
        newObject();
        fullTape();
        fullTapeIsRead();
        backAtTheEdges();
        everyPlaceOfAFeed();
        bytesBetweenTokens();
        bytesOfNames();
        lengthsOfNames();
        wordsAreNoNames();
        lengthsOfInts();
        longestThatCanBe();
        textThatEndsEarly();
        tokenThatIsNone();
        emptyText();
        tokensAtMost();
        boxesAtMost();
        letsAtMost();
        boxesAndLetsAtMost();
        bracketsAtMost();
        toldTwice();
        toldAhead();
        wrongInts();
        noSources();
        firstByItsPlace();
        ofOnePlaceTheLeast();
        meaningBehindSyntaxAndRoom();
        soundTextBeginsAnew();
        textAfterText();
        longTextAfterLongText();
        CHECK.finish();
    }

    private static void sound(String text) {
        CHECK.dueSound(text);
    }

    /** The wall that has the fault read to it had another text: nothing of it changes. */
    private static void fault(String text, int fault, int place) {
        Run.busy(CHECK, "a text with a fault changes nothing").fault(text, fault, place).due("count(9)", 0).end();
    }

    private static boolean isIn(String bytes, int c) {
        return bytes.indexOf(c) >= 0;
    }

    // "No BOXES; TICK 0; nothing is told or asked."
    private static void newObject() {
        Run run = new Run(CHECK, "a new object");
        int[] counts = {0, 0, 0, 0, 0, 0, 0, 60, 0, 0};
        for (int what = 0; what < counts.length; what++) {
            run.due("count(" + what + ")", counts[what]);
        }
        run.due("place()", NONE).due("left()", NONE).due("planned(0)", NONE).due("at(0, 0)", NONE).due("let(0)", 0)
            .due("unseen(400, 0)", NONE).due("box(0, 0)", NONE).due("shows(0)", 0).due("showed(0, 0)", 0)
            .due("aged(0, 0)", NONE).refused("look(0)", false).refused("fix(0, 0, 0)", false)
            .refused("fix(0, NONE, 0)", false).refused("lay(8)", NONE).refused("plan(1, 1)", NONE)
            .refused("follow()", NONE).refused("back(1)", NONE).refused("read()", 0).due("ask(63)", 0).end();
    }

    // "NONE, and nothing comes, if it would have more than 2,000."
    private static void fullTape() {
        Run run = new Run(CHECK, "feed");
        for (int n = 1; n <= 100; n++) {
            run.due(FEED, 20 * n);
        }
        run.refused(FEED, NONE).due("count(9)", 2000).due("back(19)", 1981).refused(FEED, NONE)
            .due("count(9)", 1981).due("back(1)", 1980).due(FEED, 2000).refused(FEED, NONE).end();
    }

    // "a text of at most 2,000 bytes", "the text's end: its length"
    private static void fullTapeIsRead() {
        String full = "let a=7" + " ".repeat(1992) + ";";
        new Run(CHECK, "a full tape").tape(full).refused("feed(-1, -1, -1, -1, -1)", NONE)
            .due("read()", 0).due("place()", NONE).due("let(0)", 7).due("count(9)", 0).due(FEED, 20).end();
        fault("let a=7" + " ".repeat(1993), SYNTAX, 2000);
        fault("let a=7" + " ".repeat(1992), SYNTAX, 1999);
        fault(" ".repeat(1999) + "?", SYNTAX, 1999);
        fault(" ".repeat(1996) + "let ", SYNTAX, 2000);
        sound(" ".repeat(2000));
    }

    // "NONE, and nothing goes, if it has not so many, or n is below 0."
    private static void backAtTheEdges() {
        new Run(CHECK, "back").due("back(0)", 0).refused("back(1)", NONE).refused("back(-1)", NONE)
            .tape("let a=9;let b=8;bcde").refused("back(21)", NONE).refused("back(-1)", NONE)
            .refused("back(MOST)", NONE).refused("back(LEAST)", NONE).due("back(0)", 20).due("back(4)", 16)
            .refused("back(17)", NONE).end();
        new Run(CHECK, "back").tape("let a=9;let b=8;bcde").due("back(20)", 0).refused("back(1)", NONE)
            .due("count(9)", 0).tape("let c=5;").due("read()", 0).due("count(1)", 1).due("let(0)", 5).end();
    }

    // "Twenty bytes, the highest of a first, come behind the tape"
    private static void everyPlaceOfAFeed() {
        for (int place = 0; place < 40; place++) {
            fault(" ".repeat(place) + "?" + " ".repeat(39 - place), SYNTAX, place);
        }
        // "let a=10;let b=32;  "
        new Run(CHECK, "feed").due("feed(1818588192, 1631400240, 996959604, 543309107, 842735648)", 20)
            .due("read()", 0).due("let(0)", 10).due("let(1)", 32).end();
    }

    // "with blanks (9, 10, 13, 32) between or not"; "A longer one, all else, is no TOKEN."
    private static void bytesBetweenTokens() {
        for (int c = 0; c < 256; c++) {
            char one = (char) c;
            boolean isBlank = isIn(BLANKS, c);
            if (isBlank) {
                sound(one + "let" + one + "a" + one + "=" + one + "1" + one + ";" + one);
            } else {
                fault(one + "let a=1;", SYNTAX, 0);
                fault("let" + one + "a=1;", SYNTAX, isIn(LETTERS + DIGITS, c) ? 0 : 3);
                boolean goesOn = isIn("+-*", c) || c == ';';
                if (!isIn(DIGITS, c)) {
                    fault("let a=1" + one + ";", SYNTAX, goesOn ? 8 : 7);
                }
                fault("let a=1;" + one, SYNTAX, 8);
            }
        }
    }

    // "a letter a .. z, then letters and digits"
    private static void bytesOfNames() {
        for (int c = 0; c < 256; c++) {
            char one = (char) c;
            if (isIn(LETTERS, c)) {
                sound("let " + one + "=1;");
            } else {
                fault("let " + one + "=1;", SYNTAX, isIn(BLANKS, c) ? 5 : 4);
            }
            if (isIn(LETTERS + DIGITS, c)) {
                sound("let q" + one + "=1;let q=2;");
            } else if (isIn(BLANKS, c)) {
                fault("let q" + one + "=1;let q=2;", TWICE, 13);
            } else {
                fault("let q" + one + "=1;let q=2;", SYNTAX, one == '=' ? 6 : 5);
            }
        }
    }

    // "at most 8"
    private static void lengthsOfNames() {
        new Run(CHECK, "names of 8").text("let abcdefgh=1;let abcdefgi=2;let bbcdefgh=abcdefgh*10+abcdefgi;"
            + "let z1234567=4;").due("let(2)", 12).due("let(3)", 4).end();
        fault("let abcdefghi=1;", SYNTAX, 4);
        fault("let a12345678=1;", SYNTAX, 4);
        fault("let abcdefgh=1;let b=abcdefghi;", SYNTAX, 21);
        fault("let abcdefgh=1;let b=abcdefgh1;", SYNTAX, 21);
        fault("abcdefghi", SYNTAX, 0);
        fault("let a=1;let b=" + "a".repeat(100) + ";", SYNTAX, 14);
        // Names that share their last or first eight bytes with longer ones are other names.
        fault("let " + "s".repeat(7) + "s0=1;", SYNTAX, 4);
        sound("let " + "s".repeat(6) + "s0=1;");
    }

    // "none of the words in quotes"
    private static void wordsAreNoNames() {
        for (String word : WORDS) {
            fault("let " + word + "=1;", SYNTAX, 4);
            fault("box " + word + " worth 1 fresh 1 size 1 1=s0;", SYNTAX, 4);
            boolean goesOn = word.equals("min") || word.equals("max");
            fault("let a=" + word + ";", SYNTAX, goesOn ? 6 + word.length() : 6);
            sound("let " + word + "0=1;let q" + word + "=2;let " + word.substring(1) + "=3;let "
                + word.substring(0, word.length() - 1) + "=4;");
        }
    }

    // "INTS (1 to 4 digits)"
    private static void lengthsOfInts() {
        String[] fine = {"0", "9", "10", "99", "100", "999", "1000", "9999", "0000", "0009", "09"};
        for (String digits : fine) {
            new Run(CHECK, "an int").text("let a=" + digits + ";").due("let(0)", Integer.parseInt(digits)).end();
        }
        for (String digits : new String[] {"10000", "00000", "00001", "99999", "4294967297", "1".repeat(50)}) {
            fault("let a=" + digits + ";", SYNTAX, 6);
            fault("box b worth " + digits + " fresh 1 size 1 1=s0;", SYNTAX, 12);
        }
        fault("box b worth 1 fresh 00001 size 1 1=s0;", SYNTAX, 20);
        sound("box b worth 0001 fresh 0006 size 0008 0006=s0;");
    }

    // "TOKENS, the longest that can be"
    private static void longestThatCanBe() {
        fault("let a=min1;", NAME, 6);
        fault("let a=s0s1;", NAME, 6);
        fault("let a=s01;", NAME, 6);
        fault("let a=1s0;", SYNTAX, 7);
        fault("let a=12 34;", SYNTAX, 9);
        fault("leta=1;", SYNTAX, 0);
        fault("let a=1;boxb worth 1 fresh 1 size 1 1=s0;", SYNTAX, 8);
        fault("box b worth1 fresh 1 size 1 1=s0;", SYNTAX, 6);
        fault("box b worth 1 fresh1 size 1 1=s0;", SYNTAX, 14);
        fault("box b worth 1 fresh 1 size1 1=s0;", SYNTAX, 22);
        fault("box b worth 1 fresh 1 size 11=s0;", SYNTAX, 29);
        sound("box b worth 1fresh 1size 1 1=s0*1;let c=(1)*(2)-min(s0,s1);");
    }

    // "with which no text goes on" at "the text's end: its length"
    private static void textThatEndsEarly() {
        String box = "box b worth 1 fresh 1 size 1 1 = min ( s0 , ( 1 ) ) + 2 * s1 - 3 ;";
        String[] tokens = box.split(" ");
        StringBuilder start = new StringBuilder();
        for (int n = 0; n < tokens.length - 1; n++) {
            start.append(tokens[n]);
            fault(start.toString(), SYNTAX, start.length());
            start.append(" ");
            fault(start.toString(), SYNTAX, start.length());
        }
        sound(start + ";");
    }

    // "a TOKEN, or what is none, with which no text goes on"
    private static void tokenThatIsNone() {
        String[] tokens = "box b worth 1 fresh 1 size 1 1 = min ( s0 , ( 1 ) ) + 2 * s1 - 3 ;".split(" ");
        for (int n = 0; n < tokens.length; n++) {
            String[] spoiled = tokens.clone();
            spoiled[n] = "?";
            String text = String.join(" ", spoiled);
            fault(text, SYNTAX, text.indexOf('?'));
            spoiled[n] = "let";
            text = String.join(" ", spoiled);
            // A let in the place of the box goes on with its name, and not with a worth.
            fault(text, SYNTAX, n == 0 ? 6 : text.indexOf("let"));
        }
    }

    // "text: {TELL}", none of them too
    private static void emptyText() {
        Run.busy(CHECK, "the empty text").due("read()", 0).due("place()", NONE).due("count(0)", 0).due("count(1)", 0)
            .due("left()", NONE).due("at(0, 0)", NONE).due("box(0, 0)", NONE).due("let(0)", 0).end();
        Run.busy(CHECK, "blanks").tape("\n").due("read()", 0).due("count(0)", 0).due("count(9)", 0).end();
        Run.busy(CHECK, "place").fault("?", SYNTAX, 0).due("read()", 0).due("place()", NONE).end();
    }

    /** A let of n tokens, n odd and 5 at least. */
    private static String letOf(String name, int n) {
        return "let " + name + "=1" + "+1".repeat((n - 5) / 2) + ";";
    }

    // "a 401st TOKEN"
    private static void tokensAtMost() {
        String all = letOf("a", 203) + letOf("b", 197);
        new Run(CHECK, "400 tokens").text(all).due("let(0)", 100).due("let(1)", 97).end();
        sound(all + BLANKS);
        fault(all + "let c=1;", ROOM, all.length());
        fault(all + "  box", ROOM, all.length() + 2);
        fault(all + "let ?", ROOM, all.length());
        // With these no text goes on, whichever token they are.
        fault(all + ";", SYNTAX, all.length());
        fault(all + "?", SYNTAX, all.length());
        fault(all + "12345", SYNTAX, all.length());
        // The 400th is followed by one of each sort.
        String open = letOf("a", 401);
        String first = open.substring(0, open.length() - 1);
        fault(first, SYNTAX, first.length());
        fault(first + ";", ROOM, first.length());
        fault(first + "+1;", ROOM, first.length());
        fault(first + " *", ROOM, first.length() + 1);
        fault(first + ")", SYNTAX, first.length());
        fault(first + " 1", SYNTAX, first.length() + 1);
    }

    private static String boxes(int number) {
        StringBuilder text = new StringBuilder();
        for (int k = 0; k < number; k++) {
            text.append("box b").append(k).append(" worth 1 fresh 1 size 1 1=s").append(k).append(";");
        }
        return text.toString();
    }

    private static String lets(int number) {
        StringBuilder text = new StringBuilder();
        for (int k = 0; k < number; k++) {
            text.append("let a").append(k).append("=").append(k * 3).append(";");
        }
        return text.toString();
    }

    // "a 7th box .. (at that word)"
    private static void boxesAtMost() {
        String six = boxes(6);
        new Run(CHECK, "6 boxes").text(six).due("count(0)", 6).due("box(5, 4)", 32).due("box(6, 4)", NONE)
            .due("ask(63)", 6).end();
        fault(six + "box", ROOM, six.length());
        fault(six + "\nbox b6 worth 1 fresh 1 size 1 1=s0;", ROOM, six.length() + 1);
        fault(six + "let a=1;box", ROOM, six.length() + 8);
        fault(six + "let box", SYNTAX, six.length() + 4);
        sound(six + "let a=1;");
    }

    // "a 13th let (at that word)"
    private static void letsAtMost() {
        String twelve = lets(12);
        new Run(CHECK, "12 lets").text(twelve).due("count(1)", 12).due("let(11)", 33).due("let(12)", 0).end();
        fault(twelve + "let", ROOM, twelve.length());
        fault(twelve + " let a12=1;", ROOM, twelve.length() + 1);
        fault(twelve + HEAD + "s0;let", ROOM, twelve.length() + HEAD.length() + 3);
        fault(twelve + HEAD + "let;", SYNTAX, twelve.length() + HEAD.length());
        sound(twelve + HEAD + "s0;");
    }

    // "BOXES, LETS are numbered from 0 on, each sort by itself": and each has its own room
    private static void boxesAndLetsAtMost() {
        String mixed = boxes(3) + lets(12) + boxes(6).substring(boxes(3).length());
        for (String all : new String[] {lets(12) + boxes(6), boxes(6) + lets(12), mixed}) {
            new Run(CHECK, "6 boxes and 12 lets").text(all).due("count(0)", 6).due("count(1)", 12).due("box(0, 4)", 1)
                .due("box(5, 4)", 32).due("let(0)", 0).due("let(11)", 33).end();
            fault(all + "let", ROOM, all.length());
            fault(all + "box", ROOM, all.length());
            fault(all + "let b0=1;", ROOM, all.length());
            fault(all + "x", SYNTAX, all.length());
        }
    }

    // "a 9th ( within one another (at it)"
    private static void bracketsAtMost() {
        String eight = "(".repeat(8);
        String closed = eight + "1" + ")".repeat(8);
        sound("let a=" + closed + "+" + closed + "*" + closed + ";");
        fault("let a=" + eight + "(", ROOM, 14);
        fault("let a=" + closed + "-" + eight + "(", ROOM, 6 + 18 + 8);
        fault("let a=" + eight + "1(", SYNTAX, 15);
        fault("let a=" + eight + "1+(", ROOM, 16);
        fault("let a=" + eight + "1*(", ROOM, 16);
        fault("let a=" + eight + "min", SYNTAX, 17);
        fault("let a=" + eight + "min(", ROOM, 17);
        sound("let a=" + "min(1,".repeat(8) + "1" + ")".repeat(8) + ";");
        sound("let a=" + "max(".repeat(8) + "1" + ",1)".repeat(8) + ";");
        fault("let a=" + "min(1,".repeat(8) + "(", ROOM, 54);
        fault("let a=" + "(max(".repeat(4) + "(", ROOM, 26);
        fault("let a=min(" + "(".repeat(7) + "1" + ")".repeat(7) + "," + eight, ROOM, 10 + 15 + 1 + 7);
        // What is closed again does not count.
        sound("let a=((1)+(2)*min(3,4)-(5)+(6)+(7)+(8)+(9)+(10)+max((11),(12)));");
    }

    // "a NAME told already (LETS, BOXES and s0 .. s5 together)"
    private static void toldTwice() {
        for (int s = 0; s < 6; s++) {
            fault("let s" + s + "=1;", TWICE, 4);
            fault("box s" + s + " worth 1 fresh 1 size 1 1=s0;", TWICE, 4);
        }
        sound("let s6=1;let s=2;let s00=3;let r5=4;let t0=5;let s9=6;");
        fault("let b=1;" + HEAD + "s0;", TWICE, 12);
        fault(HEAD + "s0;let b=1;", TWICE, HEAD.length() + 7);
        fault("let b=1;let b=1;", TWICE, 12);
        fault(HEAD + "s0;" + HEAD + "s0;", TWICE, HEAD.length() + 7);
        fault("let a=1;let b=1;let c=1;let a=1;", TWICE, 28);
        // The names of an earlier text are not told in this one.
        new Run(CHECK, "told anew").text("let b=1;let a=2;").text("let a=3;" + HEAD + "s0;").due("let(0)", 3).end();
    }

    // "none told so ahead, or that of a BOX"
    private static void toldAhead() {
        fault("let a=s6;", NAME, 6);
        fault("let a=s;", NAME, 6);
        fault("let a=a;", NAME, 6);
        fault("let a=b;let b=1;", NAME, 6);
        fault(HEAD + "b;", NAME, HEAD.length());
        fault(HEAD + "s0;let c=b;", NAME, HEAD.length() + 9);
        fault("let a=1;let b=min(a,max(2,(c)))*d;", NAME, 27);
        sound("let a=1;let b=a;let c=b+a;" + "box d worth 1 fresh 1 size 1 1=c+s5;");
        // A let of an earlier text is not told in this one.
        Run.busy(CHECK, "told earlier").fault("let a=l;", NAME, 6).end();
    }

    // "worth above 1000; fresh 0 or above 6; .. wide 0 or above 8, .. high 0 or above 6"
    private static void wrongInts() {
        int[][] fine = {{0, 1, 1, 1}, {1000, 6, 8, 6}, {999, 2, 2, 2}, {1, 5, 7, 5}};
        for (int[] box : fine) {
            new Run(CHECK, "ints at their edges").text(Check.sized("b", box[0], box[1], box[2], box[3], "s0"))
                .due("box(0, 0)", box[0]).due("box(0, 1)", box[1]).due("box(0, 2)", box[2]).due("box(0, 3)", box[3]).end();
        }
        fault("box b worth 1001 fresh 6 size 8 6=s0;", WRONG, 12);
        fault("box b worth 9999 fresh 6 size 8 6=s0;", WRONG, 12);
        for (String wrong : new String[] {"0", "7", "0000", "9999"}) {
            fault("box b worth 1000 fresh " + wrong + " size 8 6=s0;", WRONG, 23);
            fault("box b worth 1000 fresh 6 size 8 " + wrong + "=s0;", WRONG, 32);
        }
        for (String wrong : new String[] {"0", "9", "0000", "9999"}) {
            fault("box b worth 1000 fresh 6 size " + wrong + " 6=s0;", WRONG, 30);
        }
        // Of a box behind others, too; and an int of an E is never wrong.
        String first = Check.box("a", 1, 1, "s0");
        fault(first + "let c=9999*0;box b worth 1 fresh 7 size 1 1=s0;", WRONG, first.length() + 33);
    }

    // "At a box's NAME: it has no SOURCES (a NAME that is a FAULT counts as one here)."
    private static void noSources() {
        fault(HEAD + "1;", WRONG, 4);
        fault("let a=1;let c=a*2;" + HEAD + "c+a-min(1,2);", WRONG, 22);
        sound("let a=s5;let c=a*0;" + HEAD + "1+c;");
        sound(HEAD + "0*s0;");
        fault(HEAD + "x;", NAME, HEAD.length());
        fault("let a=1;" + HEAD + "a+x;", NAME, 8 + HEAD.length() + 2);
        fault(Check.box("a", 1, 1, "s0") + HEAD + "a;", NAME, Check.box("a", 1, 1, "s0").length() + HEAD.length());
        // The sources of another box do not count.
        fault(Check.box("a", 1, 1, "s0") + HEAD + "1;", WRONG, Check.box("a", 1, 1, "s0").length() + 4);
    }

    // "FAULTS, the first by its place"
    private static void firstByItsPlace() {
        fault("let a=?;let", SYNTAX, 6);
        fault("let a=" + "(".repeat(9) + "?", ROOM, 14);
        fault("let a=" + "(".repeat(7) + "?" + "((", SYNTAX, 13);
        fault("let s0=x;", TWICE, 4);
        fault("let a=x;let s0=1;", NAME, 6);
        fault("let a=x+y;", NAME, 6);
        fault("box b worth 1001 fresh 0 size 9 7=x;", WRONG, 12);
        fault("box b worth 1 fresh 0 size 9 7=x;", WRONG, 20);
        fault("box b worth 1 fresh 1 size 9 7=x;", WRONG, 27);
        fault("box b worth 1 fresh 1 size 1 7=x;", WRONG, 29);
        fault("box b worth 1001 fresh 1 size 1 1=1;", WRONG, 4);
        fault("box s0 worth 1001 fresh 1 size 1 1=x;", TWICE, 4);
        fault(HEAD + "x;box s0 worth 1 fresh 1 size 1 1=s0;", NAME, HEAD.length());
        fault(HEAD + "1;let a=x;", WRONG, 4);
    }

    // "of one place the least"
    private static void ofOnePlaceTheLeast() {
        String all = letOf("a", 401);
        fault(all.substring(0, all.length() - 1) + ",", SYNTAX, all.length() - 1);
        fault("box s3 worth 1 fresh 1 size 1 1=1;", TWICE, 4);
        fault("let b=1;" + HEAD + "b;", TWICE, 12);
    }

    // "If there is none, likewise": what a text means counts only where syntax and room are sound.
    private static void meaningBehindSyntaxAndRoom() {
        fault("let s0=x;let", SYNTAX, 12);
        fault("let s0=x;let a=" + "(".repeat(9), ROOM, 23);
        fault("box b worth 1001 fresh 0 size 0 0=1", SYNTAX, 35);
        String lets = "let s0=1;" + "let a=x;".repeat(11);
        fault(lets + "let", ROOM, lets.length());
        String tokens = letOf("s1", 399) + "let";
        fault(tokens + " s1", ROOM, tokens.length() + 1);
    }

    // "none shows anything, none is looked at, fixed or planned"; nothing else begins anew.
    private static void soundTextBeginsAnew() {
        Run.busy(CHECK, "a sound text").text(Check.box("n", 9, 1, "s4") + Check.box("o", 8, 6, "s0+s1"))
            .due("shows(0)", 0).due("showed(1, 0)", 0).due("aged(1, 0)", NONE).due("box(0, 5)", 1)
            .due("box(0, 6)", NONE).due("box(0, 7)", 0).due("box(0, 8)", NONE).due("box(0, 9)", 0).due("box(1, 9)", 0)
            .due("unseen(400, 1)", 1).due("left()", NONE).due("planned(0)", NONE).due("follow()", NONE)
            .due("at(0, 0)", NONE).due("count(8)", 2).due("lay(1)", 2).due("count(0)", 2).due("count(1)", 0)
            .due("count(2)", 1).due("count(3)", 5).due("count(4)", 2).due("count(5)", 6).due("count(6)", 16)
            .due("count(7)", 20).due("box(1, 10)", 4).due("box(0, 10)", 2).end();
    }

    // "A text with a FAULT changes nothing. Else its BOXES are the wall's": none of an earlier text's
    private static void textAfterText() {
        String wide = Check.sized("w", 1000, 6, 8, 6, "s0+s1+s2+s3+s4+s5") + "let v=s1;let w2=v*2;";
        String small = Check.sized("x", 0, 1, 1, 1, "s3") + "let y=7;";
        Run run = new Run(CHECK, "text after text");
        for (int n = 0; n < 3; n++) {
            run.text(wide).due("box(0, 4)", 63).due("count(1)", 2).text(small).due("box(0, 4)", 8).due("count(1)", 1)
                .due("box(0, 0)", 0).due("box(0, 1)", 1).due("box(0, 2)", 1).due("box(0, 3)", 1).due("let(0)", 7)
                .due("let(1)", 0).fault(wide + "?", SYNTAX, wide.length()).fault(HEAD + "1;", WRONG, 4)
                .fault(wide + "let v=1;", TWICE, wide.length() + 4).text(small).due("box(0, 4)", 8)
                .due("count(0)", 1).due("count(1)", 1).fault("let z=v;", NAME, 6);
        }
        run.end();
    }

    // "a 401st TOKEN": those of earlier texts do not count
    private static void longTextAfterLongText() {
        Run run = new Run(CHECK, "long texts");
        for (int n = 0; n < 5; n++) {
            run.text(letOf("a", 203) + letOf("b", 197)).due("let(0)", 100).due("let(1)", 97);
        }
        run.fault(letOf("a", 401), ROOM, letOf("a", 401).length() - 1).text(letOf("a", 399)).due("let(0)", 198).end();
    }
}
