import java.util.ArrayList;
import java.util.List;
import java.util.Random;
import java.util.regex.Matcher;
import java.util.regex.Pattern;

/** Makes texts by chance, sound ones mostly, and spoils them. */
final class Texts {
    private static final String[] PIECES = {"let ", "box ", "worth", "fresh", "size", "min", "max", ";", ",", "=", "+",
        "-", "*", "(", ")", " ", "\n", "0", "7", "1000", "1001", "12345", "s0", "s5", "s6", "l0", "b0", "abcdefgh",
        "abcdefghi", "A", "?", "\u00ff", "\u0000", "((((((((", "))))))))", "1+", "let q=1;"};

    private static final String[] NAMES = {"s0", "s5", "s6", "l0", "l1", "l2", "b0", "b1", "b2", "x", "abcdefgh"};
    private static final String[] INTS = {"0", "1", "6", "7", "8", "9", "1000", "1001", "9999"};
    private static final Pattern NAME_OR_INT = Pattern.compile("\\b([slb][0-9]+|[0-9]+)\\b");

    private final Random random;

    Texts(Random random) {
        this.random = random;
    }

    String sound(int mostBoxes, int mostLets) {
        StringBuilder text = new StringBuilder();
        List<String> names = new ArrayList<>();
        int boxes = 0;
        int lets = 0;
        int tells = random.nextInt(mostBoxes + mostLets + 1);
        for (int n = 0; n < tells; n++) {
            if (boxes < mostBoxes && (lets == mostLets || random.nextInt(3) > 0)) {
                text.append("box b").append(boxes++).append(blank()).append("worth ").append(worth())
                    .append(" fresh ").append(1 + random.nextInt(6)).append(" size ").append(1 + random.nextInt(random.nextInt(8) + 1))
                    .append(" ").append(1 + random.nextInt(6)).append("=").append(sources()).append(e(names, 2)).append(";").append(blank());
            } else if (lets < mostLets) {
                text.append("let l").append(lets).append("=").append(e(names, 2)).append(";").append(blank());
                names.add("l" + lets++);
            }
        }
        return text.length() > 2000 ? "" : text.toString();
    }

    private int worth() {
        return random.nextInt(4) == 0 ? random.nextInt(1001) : random.nextInt(5);
    }

    private String blank() {
        return new String[] {" ", "\n", "\t ", "\r\n"}[random.nextInt(4)];
    }

    private String sources() {
        return "s" + random.nextInt(6) + (random.nextInt(3) == 0 ? "-s" + random.nextInt(6) : "") + "+*-".charAt(random.nextInt(3));
    }

    private String e(List<String> names, int depth) {
        switch (random.nextInt(depth > 0 ? 8 : 3)) {
            case 0: return "" + random.nextInt(random.nextInt(3) == 0 ? 10000 : 10);
            case 1: return "s" + random.nextInt(6);
            case 2: return names.isEmpty() ? "3" : names.get(random.nextInt(names.size()));
            case 3: return "(" + e(names, depth - 1) + ")";
            case 4: return (random.nextBoolean() ? "min" : "max") + "(" + e(names, depth - 1) + "," + e(names, depth - 1) + ")";
            default: return e(names, depth - 1) + "+-*".charAt(random.nextInt(3)) + e(names, depth - 1);
        }
    }

    String spoiled(String text) {
        StringBuilder spoiled = new StringBuilder(text);
        for (int n = random.nextInt(3); n >= 0; n--) {
            int at = random.nextInt(spoiled.length() + 1);
            int to = Math.min(spoiled.length(), at + random.nextInt(4));
            String piece = PIECES[random.nextInt(PIECES.length)];
            switch (random.nextInt(3)) {
                case 0: spoiled.delete(at, to); break;
                case 1: spoiled.insert(at, piece); break;
                default: spoiled.replace(at, to, piece); break;
            }
        }
        return clipped(spoiled);
    }

    /** Other names and numbers in the places of some: sound as far as syntax goes. */
    String renamed(String text) {
        StringBuilder renamed = new StringBuilder();
        Matcher matcher = NAME_OR_INT.matcher(text);
        int oneIn = 4 + random.nextInt(30);
        while (matcher.find()) {
            boolean isName = Character.isLetter(matcher.group().charAt(0));
            String[] others = isName ? NAMES : INTS;
            String other = random.nextInt(oneIn) == 0 ? others[random.nextInt(others.length)] : matcher.group();
            matcher.appendReplacement(renamed, other);
        }
        return clipped(matcher.appendTail(renamed));
    }

    /** As many tells, tokens and brackets as there is room for, or some more. */
    String crowded() {
        StringBuilder text = new StringBuilder();
        switch (random.nextInt(3)) {
            case 0:
                int depth = 7 + random.nextInt(4);
                for (int n = 0; n < depth; n++) {
                    text.append(random.nextBoolean() ? "1*(" : "max(2,");
                }
                return "let q=" + text + "s0" + ")".repeat(depth) + ";";
            case 1:
                for (int n = 0; n < 16; n++) {
                    text.append(random.nextInt(4) > 0 ? "let l" + n + "=" + n + ";"
                        : "box b" + n + " worth 1 fresh 1 size 1 1=s0;");
                }
                return text.toString();
            default:
                text.append("let q=1");
                for (int n = 188 + random.nextInt(12); n > 0; n--) {
                    text.append(random.nextInt(4) == 0 ? " -\n2" : "*s1");
                }
                return text + ";" + sound(1, 1);
        }
    }

    private static String clipped(StringBuilder text) {
        return text.length() > 2000 ? text.substring(0, 2000) : text.toString();
    }

    /** One of all kinds of texts. */
    String any() {
        switch (random.nextInt(10)) {
            case 0: return jumble();
            case 1: return crowded();
            case 2: return spoiled(crowded());
            case 3: return sound(6, 12);
            case 4: case 5: return spoiled(sound(6, 12));
            default: return renamed(sound(6, 12));
        }
    }

    /** Pieces one behind the other, with no thought of sense. */
    String jumble() {
        StringBuilder text = new StringBuilder();
        for (int n = random.nextInt(12); n > 0; n--) {
            text.append(PIECES[random.nextInt(PIECES.length)]);
        }
        return text.toString();
    }
}
