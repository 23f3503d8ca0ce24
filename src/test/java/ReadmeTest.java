import java.io.IOException;
import java.lang.reflect.Method;
import java.lang.reflect.Modifier;
import java.nio.file.Files;
import java.nio.file.Path;
import java.util.Arrays;
import java.util.List;
import java.util.Set;
import java.util.TreeSet;
import java.util.regex.Matcher;
import java.util.regex.Pattern;
import java.util.stream.Collectors;
import java.util.stream.Stream;

/** What README.md says is so: its calls answer as their comments say, and it leaves none out. */
public final class ReadmeTest {
    private static final Check CHECK = new Check("ReadmeTest");
    private static final Pattern BLOCK = Pattern.compile("(?s)```java\n(.*?)```");
    private static final Pattern CALL = Pattern.compile("wall\\.(\\w+)\\(([^)]*)\\); *// (-?\\w+).*");
    private static final Pattern READ = Pattern.compile("readText\\(wall, \"([^\"]*)\"\\); *// (\\d+).*");
    private static final Pattern ROW = Pattern.compile("(?m)^\\| `(\\w+\\([^)]*\\))` \\|");
    private static final Pattern TEST = Pattern.compile("`(\\w+Test)`");

    public static void main(String[] args) throws IOException, ReflectiveOperationException {
        String readme = Files.readString(Path.of("README.md"));
        for (String block : found(BLOCK, readme)) {
            if (block.startsWith("static ")) {
                helper(block);
            } else {
                example(block);
            }
        }
        table(readme);
        tests(readme);
        CHECK.finish();
    }

    // README.md's helper has to be this one.
    static int readText(GaugeWall wall, String text) {
        for (int start = 0; start < text.length(); start += 20) {
            int[] words = new int[5];
            for (int i = start; i < start + 20; i++) {
                int c = i < text.length() ? text.charAt(i) : ' ';
                words[(i - start) / 4] = words[(i - start) / 4] << 8 | c & 255;
            }
            wall.feed(words[0], words[1], words[2], words[3], words[4]);
        }
        return wall.read();
    }

    private static List<String> found(Pattern pattern, String text) {
        return pattern.matcher(text).results().map(match -> match.group(1)).collect(Collectors.toList());
    }

    private static void helper(String block) throws IOException {
        String source = Files.readString(Path.of("src/test/java/ReadmeTest.java"));
        CHECK.due("the helper is the one that is tested", squeezed(source).contains(squeezed(block)), true);
    }

    private static String squeezed(String text) {
        return text.replaceAll("\\s+", " ").strip();
    }

    /** Each line makes a wall, is a comment, or is a call with its answer behind it. */
    private static void example(String block) throws ReflectiveOperationException {
        GaugeWall wall = new GaugeWall();
        for (String line : block.split("\n")) {
            Matcher call = CALL.matcher(line);
            Matcher read = READ.matcher(line);
            if (read.matches()) {
                CHECK.due(line, readText(wall, read.group(1)), Integer.parseInt(read.group(2)));
            } else if (call.matches()) {
                String got = answer(wall, call.group(1), call.group(2));
                CHECK.due(line + " (it answers " + got + ")", got.equals(call.group(3)), true);
            } else {
                CHECK.due("to be understood: " + line,
                    line.startsWith("//") || line.equals("GaugeWall wall = new GaugeWall();"), true);
            }
        }
    }

    private static String answer(GaugeWall wall, String name, String args) throws ReflectiveOperationException {
        Object[] given = Stream.of(args.split(", *")).filter(arg -> !arg.isEmpty()).map(Integer::decode).toArray();
        Class<?>[] types = new Class<?>[given.length];
        Arrays.fill(types, int.class);
        return String.valueOf(GaugeWall.class.getMethod(name, types).invoke(wall, given));
    }

    private static void table(String readme) {
        Set<String> face = new TreeSet<>();
        for (Method method : GaugeWall.class.getDeclaredMethods()) {
            if (Modifier.isPublic(method.getModifiers())) {
                face.add(method.getName() + " of " + method.getParameterCount());
            }
        }
        Set<String> told = new TreeSet<>();
        for (String row : found(ROW, readme)) {
            String args = row.substring(row.indexOf('(') + 1, row.length() - 1);
            told.add(row.substring(0, row.indexOf('(')) + " of " + (args.isEmpty() ? 0 : args.split(",").length));
        }
        CHECK.due("the calls of the table " + told, told.equals(face), true);
    }

    private static void tests(String readme) throws IOException {
        Set<String> there = new TreeSet<>();
        try (Stream<Path> files = Files.list(Path.of("src/test/java"))) {
            files.map(file -> file.getFileName().toString()).filter(name -> name.endsWith("Test.java"))
                .forEach(name -> there.add(name.substring(0, name.length() - ".java".length())));
        }
        Set<String> named = new TreeSet<>(found(TEST, readme));
        CHECK.due("the tests that are named " + named, named.equals(there), true);
    }
}
