/** Compares answers with what is due, and tells the ones that differ. */
final class Check {
    private final String name;
    private int done;
    private int wrong;

    Check(String name) {
        this.name = name;
    }

    void due(String call, long got, long want) {
        done++;
        if (got != want) {
            wrong++;
            System.out.println(name + ": " + call + " answered " + got + ", due is " + want);
        }
    }

    void due(String call, boolean got, boolean want) {
        due(call, got ? 1 : 0, want ? 1 : 0);
    }

    /** Reads the text on the wall; due is a fault's number, or 0, and its place, or NONE. */
    void dueFault(GaugeWall wall, String text, int fault, int place) {
        feed(wall, text);
        due("read() of \"" + text + "\"", wall.read(), fault);
        due("place() of \"" + text + "\"", wall.place(), place);
    }

    void dueFault(String text, int fault, int place) {
        dueFault(new GaugeWall(), text, fault, place);
    }

    void dueSound(String text) {
        dueFault(text, 0, GaugeWall.NONE);
    }

    void finish() {
        System.out.println(name + ": " + done + " answers, " + wrong + " not as due");
        if (wrong != 0 || done == 0) {
            System.exit(1);
        }
    }

    /** Feeds the text behind what is on the tape; answers how many calls that took. */
    static int feed(GaugeWall wall, String text) {
        int calls = 0;
        for (int start = 0; start < text.length(); start += 20) {
            int[] words = words(text, start);
            wall.feed(words[0], words[1], words[2], words[3], words[4]);
            calls++;
        }
        int tooMany = calls * 20 - text.length();
        if (tooMany > 0) {
            wall.back(tooMany);
            calls++;
        }
        return calls;
    }

    /** Twenty bytes of the text, with blanks behind its end. */
    static int[] words(String text, int start) {
        int[] words = new int[5];
        for (int i = 0; i < 20; i++) {
            int c = start + i < text.length() ? text.charAt(start + i) : ' ';
            words[i / 4] = words[i / 4] << 8 | c & 255;
        }
        return words;
    }

    static GaugeWall wallOf(String text) {
        GaugeWall wall = new GaugeWall();
        feed(wall, text);
        int fault = wall.read();
        if (fault != 0) {
            throw new IllegalStateException("fault " + fault + " at " + wall.place() + " in " + text);
        }
        return wall;
    }

    /** A box's telling with the least size. */
    static String box(String name, int worth, int fresh, String e) {
        return sized(name, worth, fresh, 1, 1, e);
    }

    static String sized(String name, int worth, int fresh, int wide, int high, String e) {
        return "box " + name + " worth " + worth + " fresh " + fresh + " size " + wide + " " + high + " = " + e + ";\n";
    }

    static void ticks(GaugeWall wall, int n) {
        for (int i = 0; i < n; i++) {
            wall.tick();
        }
    }
}
