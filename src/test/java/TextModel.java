import java.util.ArrayDeque;
import java.util.ArrayList;
import java.util.Deque;
import java.util.HashMap;
import java.util.List;
import java.util.Map;
import java.util.regex.Matcher;
import java.util.regex.Pattern;

/**
 * The document's part II once more, in another way than the program's: a stack of what is expected
 * finds the faults of syntax and room; all faults of meaning are gathered, and the least one is taken.
 */
final class TextModel {
    record Token(String kind, String text, int place) { }

    static final class Told {
        String name;
        boolean isBox;
        int[] numbers = new int[4];
        int sources;
        List<Token> e = new ArrayList<>();
    }

    private static final String WORDS = " let box worth fresh size min max ";
    private static final Pattern LEXEME = Pattern.compile("[a-z][a-z0-9]*|[0-9]+|[;,=+\\-*()]");

    int fault;
    int place = -1;
    final List<Told> lets = new ArrayList<>();
    final List<Told> boxes = new ArrayList<>();

    private final List<Token> tokens = new ArrayList<>();
    private final Map<String, Told> letsByName = new HashMap<>();

    TextModel(String text) {
        split(text);
        findSyntaxOrRoom();
        if (fault == 0) {
            tell();
        }
    }

    private void split(String text) {
        Matcher matcher = LEXEME.matcher(text);
        int i = 0;
        while (true) {
            while (i < text.length() && "\t\n\r ".indexOf(text.charAt(i)) >= 0) {
                i++;
            }
            if (i == text.length()) {
                tokens.add(new Token("end", "", i));
                return;
            }
            matcher.region(i, text.length());
            if (!matcher.lookingAt()) {
                tokens.add(new Token("none", "", i));
                return;
            }
            String lexeme = matcher.group();
            char c = lexeme.charAt(0);
            String kind = c >= 'a' && c <= 'z' ? "NAME" : c >= '0' && c <= '9' ? "INT" : lexeme;
            if (kind.equals("NAME") && lexeme.length() > 8 || kind.equals("INT") && lexeme.length() > 4) {
                kind = "none";
            } else if (WORDS.contains(" " + lexeme + " ")) {
                kind = lexeme;
            }
            tokens.add(new Token(kind, lexeme, i));
            if (kind.equals("none")) {
                return;
            }
            i = matcher.end();
        }
    }

    private static String rule(String symbol, String kind) {
        boolean startsUnit = " INT NAME min max ( ".contains(" " + kind + " ");
        switch (symbol) {
            case "text":
                return kind.equals("let") ? "let NAME = E ; text"
                    : kind.equals("box") ? "box NAME worth INT fresh INT size INT INT = E ; text"
                    : kind.equals("end") ? "end" : null;
            case "E": return startsUnit ? "PART sums" : null;
            case "sums": return kind.equals("+") || kind.equals("-") ? kind + " PART sums" : "";
            case "PART": return startsUnit ? "UNIT products" : null;
            case "products": return kind.equals("*") ? "* UNIT products" : "";
            case "UNIT":
                return kind.equals("INT") || kind.equals("NAME") ? kind
                    : kind.equals("min") || kind.equals("max") ? kind + " ( E , E )"
                    : kind.equals("(") ? "( E )" : null;
            default: return symbol.equals(kind) ? symbol : null;
        }
    }

    private void findSyntaxOrRoom() {
        Deque<String> expected = new ArrayDeque<>();
        expected.push("text");
        int boxCount = 0;
        int letCount = 0;
        int depth = 0;
        for (int n = 0; n < tokens.size(); n++) {
            Token token = tokens.get(n);
            while (true) {
                String symbol = expected.pop();
                String rule = rule(symbol, token.kind);
                if (rule == null) {
                    fail(1, token.place);
                    return;
                }
                if (rule.equals(symbol)) {
                    break;
                }
                String[] parts = rule.split(" ");
                for (int p = parts.length - 1; p >= 0; p--) {
                    if (!parts[p].isEmpty()) {
                        expected.push(parts[p]);
                    }
                }
            }
            boxCount += token.kind.equals("box") ? 1 : 0;
            letCount += token.kind.equals("let") ? 1 : 0;
            depth += token.kind.equals("(") ? 1 : token.kind.equals(")") ? -1 : 0;
            boolean tooMany = n >= 400 && !token.kind.equals("end");
            if (tooMany || boxCount > 6 || letCount > 12 || depth > 8) {
                fail(2, token.place);
                return;
            }
        }
    }

    private void fail(int number, int at) {
        fault = number;
        place = at;
    }

    private void tell() {
        List<long[]> faults = new ArrayList<>();
        List<String> told = new ArrayList<>(List.of("s0", "s1", "s2", "s3", "s4", "s5"));
        int n = 0;
        while (!tokens.get(n).kind.equals("end")) {
            Told one = new Told();
            one.isBox = tokens.get(n).kind.equals("box");
            Token name = tokens.get(n + 1);
            one.name = name.text;
            if (told.contains(one.name)) {
                faults.add(new long[] {name.place, 3});
            }
            n += 2;
            int[] least = {0, 1, 1, 1};
            int[] most = {1000, 6, 8, 6};
            int met = 0;
            for (; !tokens.get(n).kind.equals("="); n++) {
                if (tokens.get(n).kind.equals("INT")) {
                    one.numbers[met] = Integer.parseInt(tokens.get(n).text);
                    if (one.numbers[met] < least[met] || one.numbers[met] > most[met]) {
                        faults.add(new long[] {tokens.get(n).place, 5});
                    }
                    met++;
                }
            }
            boolean hasFaultyName = false;
            for (n++; !tokens.get(n).kind.equals(";"); n++) {
                Token token = tokens.get(n);
                one.e.add(token);
                if (token.kind.equals("NAME")) {
                    if (token.text.matches("s[0-5]")) {
                        one.sources |= 1 << token.text.charAt(1) - '0';
                    } else if (letsByName.containsKey(token.text)) {
                        one.sources |= letsByName.get(token.text).sources;
                    } else {
                        hasFaultyName = true;
                        faults.add(new long[] {token.place, 4});
                    }
                }
            }
            n++;
            if (one.isBox && one.sources == 0 && !hasFaultyName) {
                faults.add(new long[] {name.place, 5});
            }
            told.add(one.name);
            (one.isBox ? boxes : lets).add(one);
            if (!one.isBox) {
                letsByName.put(one.name, one);
            }
        }
        for (long[] one : faults) {
            if (fault == 0 || one[0] < place || one[0] == place && one[1] < fault) {
                fail((int) one[1], (int) one[0]);
            }
        }
    }

    /** What E is, by splitting it at its last sign that stands in no bracket. */
    long evaluate(List<Token> e, long[] sources) {
        int sum = lastOutside(e, "+", "-");
        if (sum > 0) {
            long first = evaluate(e.subList(0, sum), sources);
            long second = evaluate(e.subList(sum + 1, e.size()), sources);
            return e.get(sum).kind.equals("+") ? first + second : first - second;
        }
        int product = lastOutside(e, "*", "*");
        if (product > 0) {
            return evaluate(e.subList(0, product), sources) * evaluate(e.subList(product + 1, e.size()), sources);
        }
        Token first = e.get(0);
        switch (first.kind) {
            case "INT": return Long.parseLong(first.text);
            case "NAME":
                return letsByName.containsKey(first.text) ? evaluate(letsByName.get(first.text).e, sources)
                    : sources[first.text.charAt(1) - '0'];
            case "(": return evaluate(e.subList(1, e.size() - 1), sources);
            default:
                List<Token> inside = e.subList(2, e.size() - 1);
                int comma = lastOutside(inside, ",", ",");
                long a = evaluate(inside.subList(0, comma), sources);
                long b = evaluate(inside.subList(comma + 1, inside.size()), sources);
                return first.kind.equals("min") == a < b ? a : b;
        }
    }

    private static int lastOutside(List<Token> e, String one, String other) {
        int depth = 0;
        int last = -1;
        for (int n = 0; n < e.size(); n++) {
            String kind = e.get(n).kind;
            depth += kind.equals("(") ? 1 : kind.equals(")") ? -1 : 0;
            if (depth == 0 && (kind.equals(one) || kind.equals(other))) {
                last = n;
            }
        }
        return last;
    }
}
