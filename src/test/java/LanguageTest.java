import java.io.IOException;
import java.lang.reflect.Constructor;
import java.lang.reflect.Field;
import java.lang.reflect.Method;
import java.lang.reflect.Modifier;
import java.nio.file.Files;
import java.nio.file.Path;
import java.util.Arrays;
import java.util.Set;
import java.util.TreeSet;
import java.util.regex.Matcher;
import java.util.regex.Pattern;

/** The document's public face, and what LANGUAGE.md rules out by words that a look can find. */
public final class LanguageTest {
    private static final Check CHECK = new Check("LanguageTest");

    private static final Set<String> FACE = Set.of(
        "int feed(int,int,int,int,int)", "int back(int)", "int read()", "int place()", "boolean cost(int,int)",
        "boolean budget(int)", "int value(int,int,int)", "boolean down(int,int,int)", "int ask(int)", "int tick()",
        "boolean look(int)", "long shows(int)", "long showed(int,int)", "int box(int,int)", "int aged(int,int)",
        "long let(int)", "int plan(int,int)", "int planned(int)", "int left()", "int follow()",
        "boolean fix(int,int,int)", "int lay(int)", "int at(int,int)", "int unseen(int,int)", "int count(int)");

    public static void main(String[] args) throws IOException {
        face();
        nestedClasses();
        words(Files.readString(Path.of("src/main/java/GaugeWall.java")));
        CHECK.finish();
    }

    private static String told(Method method) {
        StringBuilder text = new StringBuilder(method.getReturnType() + " " + method.getName() + "(");
        Class<?>[] types = method.getParameterTypes();
        for (int n = 0; n < types.length; n++) {
            text.append(n == 0 ? "" : ",").append(types[n]);
        }
        return text.append(")").toString();
    }

    private static void face() {
        CHECK.due("the class is public and final", Modifier.isPublic(GaugeWall.class.getModifiers())
            && Modifier.isFinal(GaugeWall.class.getModifiers()), true);
        Set<String> open = new TreeSet<>();
        for (Method method : GaugeWall.class.getDeclaredMethods()) {
            if (!Modifier.isPrivate(method.getModifiers())) {
                CHECK.due(method + " is public", Modifier.isPublic(method.getModifiers()), true);
                open.add(told(method));
            } else {
                CHECK.due("no private method is named " + method.getName(),
                    FACE.stream().anyMatch(told -> told.contains(" " + method.getName() + "(")), false);
            }
        }
        CHECK.due("the methods " + open, open.equals(FACE), true);
        for (Field field : GaugeWall.class.getDeclaredFields()) {
            CHECK.due(field + " is private", Modifier.isPrivate(field.getModifiers()), !field.getName().equals("NONE"));
        }
        Constructor<?>[] constructors = GaugeWall.class.getDeclaredConstructors();
        CHECK.due("constructors", constructors.length, 1);
        CHECK.due("the constructor is public", Modifier.isPublic(constructors[0].getModifiers()), true);
        CHECK.due("NONE", GaugeWall.NONE, -1);
    }

    private static void nestedClasses() {
        Class<?>[] nested = GaugeWall.class.getDeclaredClasses();
        CHECK.due("classes beside twelve", Math.max(0, nested.length + 1 - 12), 0);
        for (Class<?> one : nested) {
            CHECK.due(one + " is static", Modifier.isStatic(one.getModifiers()), true);
            long fields = Arrays.stream(one.getDeclaredFields()).filter(f -> !Modifier.isStatic(f.getModifiers())).count();
            CHECK.due(one + " has fields above twenty", Math.max(0, fields - 20), 0);
            for (Field field : one.getDeclaredFields()) {
                if (Modifier.isStatic(field.getModifiers())) {
                    CHECK.due(field + " is final", Modifier.isFinal(field.getModifiers()), true);
                }
            }
        }
    }

    private static void words(String source) {
        String code = source.replaceAll("(?s)/\\*.*?\\*/", " ").replaceAll("//[^\n]*", " ");
        Matcher banned = Pattern.compile("\\b(throw|throws|try|catch|finally|synchronized|assert|import|package|native"
            + "|volatile|transient|protected|System|Thread|Random|equals|hashCode|toString|\\w+Exact)\\b|->|::|\\bstatic\\s*\\{")
            .matcher(code);
        while (banned.find()) {
            CHECK.due("the word " + banned.group(), 1, 0);
        }
        CHECK.due("the words were looked for", code.contains("class GaugeWall"), true);
    }
}
