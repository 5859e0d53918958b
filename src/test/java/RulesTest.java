import java.io.IOException;
import java.lang.reflect.Constructor;
import java.lang.reflect.Field;
import java.lang.reflect.Method;
import java.lang.reflect.Modifier;
import java.nio.file.Files;
import java.nio.file.Path;
import java.util.List;
import java.util.Set;
import java.util.TreeSet;
import java.util.regex.Matcher;
import java.util.regex.Pattern;

/** The public face, and what can be seen of LANGUAGE.md in the class and its source. */
public final class RulesTest {
    private static final String[] FACE = {
        "register(1):int", "input(3):int", "transfer(5):int", "first(1):int", "step(2):int", "output(2):int",
        "walked(0):int", "state(1):int", "number(1):int", "way(2):int", "alike(2):boolean", "word(3):int",
        "classes(0):int", "classOf(1):int", "least(3):int", "count(1):int"};
    private static final String A = "IllegalArgumentException";
    private static final String S = "IllegalStateException";
    private static final String U = "UnsupportedOperationException";
    private static final String I = "IndexOutOfBoundsException";
    private static final String[][] THROWN = {
        {"register", A, S, U}, {"input", A, U}, {"transfer", A, U}, {"first", A}, {"step", A}, {"output", A},
        {"walked", U}, {"state", U, I}, {"number", U, A}, {"way", U, I}, {"alike", A}, {"word", A, I},
        {"classes", U}, {"classOf", U, I}, {"least", U, I}, {"count"}};
    private static final String[] NOT_ALLOWED = {
        "->", "::", "\\bfinally\\b", "\\bsynchronized\\b", "\\bassert\\b", "\\btry\\b", "\\bcatch\\b",
        "\\bpackage\\b", "Exact\\(", "\\bSystem\\.out\\b", "\\bMap\\b", "\\bstatic \\{", "\\bObject\\b"};

    public static void main(String[] args) throws IOException {
        face();
        exceptionsOfTheFace();
        classesInside();
        String code = withoutComments(Files.readString(Path.of("src/main/java/SmallExhaust.java")));
        source(code);
        library(code);
        exceptionsThrown(code);
        shortMethods(code);
        Runs.end();
    }

    private static void face() {
        Set<String> open = new TreeSet<>();
        Set<String> hidden = new TreeSet<>();
        for (Method method : SmallExhaust.class.getDeclaredMethods()) {
            if (Modifier.isPrivate(method.getModifiers())) {
                hidden.add(method.getName());
            } else {
                Runs.due(method.getName() + " is public", Modifier.isPublic(method.getModifiers()), true);
                Runs.due(method.getName() + " is static", Modifier.isStatic(method.getModifiers()), false);
                open.add(method.getName() + "(" + method.getParameterCount() + "):" + method.getReturnType());
            }
        }
        Runs.due("the face", open, new TreeSet<>(Set.of(FACE)));
        for (String row : FACE) {
            String name = row.substring(0, row.indexOf('('));
            Runs.due("a private method named " + name, hidden.contains(name), false);
        }
        Constructor<?>[] constructors = SmallExhaust.class.getDeclaredConstructors();
        Runs.due("constructors", constructors.length, 1);
        Runs.due("the constructor's numbers", constructors[0].getParameterCount(), 1);
        for (Field field : SmallExhaust.class.getDeclaredFields()) {
            Runs.due(field.getName() + " is open", !Modifier.isPrivate(field.getModifiers()),
                    field.getName().equals("NONE"));
        }
        Runs.due("final", Modifier.isFinal(SmallExhaust.class.getModifiers()), true);
    }

    private static void exceptionsOfTheFace() {
        for (String[] row : THROWN) {
            for (Method method : SmallExhaust.class.getDeclaredMethods()) {
                if (method.getName().equals(row[0])) {
                    Set<String> named = new TreeSet<>();
                    for (Class<?> type : method.getExceptionTypes()) {
                        named.add(type.getSimpleName());
                    }
                    Set<String> due = new TreeSet<>(List.of(row));
                    due.remove(row[0]);
                    Runs.due(row[0] + " names its exceptions", named, due);
                }
            }
        }
    }

    private static void fewFieldsAndParameters(Class<?> one) {
        int fields = 0;
        for (Field field : one.getDeclaredFields()) {
            fields += Modifier.isStatic(field.getModifiers()) ? 0 : 1;
        }
        Runs.due(one + " has at most some twenty fields", fields <= 20, true);
        for (Method method : one.getDeclaredMethods()) {
            Runs.due(method + " has at most seven parameters", method.getParameterCount() <= 7, true);
        }
    }

    private static void classesInside() {
        fewFieldsAndParameters(SmallExhaust.class);
        Class<?>[] inside = SmallExhaust.class.getDeclaredClasses();
        Runs.due("some twelve classes at most", inside.length <= 11, true);
        for (Class<?> one : inside) {
            fewFieldsAndParameters(one);
            Runs.due(one + " is static", Modifier.isStatic(one.getModifiers()), true);
            Runs.due(one + " is public", Modifier.isPublic(one.getModifiers()), false);
            for (Field field : one.getDeclaredFields()) {
                boolean fixed = !Modifier.isStatic(field.getModifiers()) || Modifier.isFinal(field.getModifiers());
                Runs.due(field + " is no static state", fixed, true);
            }
        }
    }

    private static String withoutComments(String text) {
        return text.replaceAll("(?s)/\\*.*?\\*/", "").replaceAll("//[^\n]*", "");
    }

    private static void source(String code) {
        for (String pattern : NOT_ALLOWED) {
            Runs.due("the source has " + pattern, Pattern.compile(pattern).matcher(code).find(), false);
        }
        String rest = code.replace("import java.util.Arrays;", "");
        Runs.due("another import", rest.contains("import "), false);
    }

    /** Of the library only these two are used; whoever uses more has to look it up in rule 4 first. */
    private static void library(String code) {
        Set<String> used = new TreeSet<>();
        Matcher call = Pattern.compile("\\b(Arrays|Math|System|Integer|Long|String|List|java)\\.(\\w+)").matcher(code);
        while (call.find()) {
            used.add(call.group());
        }
        used.remove("java.util");
        Runs.due("the library's functions", used, new TreeSet<>(Set.of("Arrays.fill", "Math.floorMod")));
    }

    private static void exceptionsThrown(String code) {
        Matcher thrown = Pattern.compile("\\bthrow\\b[^;]*;").matcher(code);
        Pattern right = Pattern.compile("throw new (" + String.join("|", A, S, U, I) + ")\\(\"[^\"]*\"\\);");
        while (thrown.find()) {
            Runs.due(thrown.group() + " is a new exception with a written text", right.matcher(thrown.group()).matches(), true);
        }
    }

    /** Methods stand 4 or 8 blanks deep, and end with a brace that stands as deep. */
    private static void shortMethods(String code) {
        Matcher method = Pattern.compile("(?m)^( {4}| {8})(?! )[^;={}]*\\([^;={}]*\\{\n(?s:.*?)\n\\1\\}$").matcher(code);
        int methods = 0;
        while (method.find()) {
            methods++;
            Runs.due("at most 60 lines: " + method.group().lines().findFirst().orElse(""),
                    method.group().lines().count() <= 60, true);
        }
        Runs.due("methods found", methods >= FACE.length, true);
    }
}
