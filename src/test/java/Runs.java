import java.lang.reflect.InvocationTargetException;
import java.lang.reflect.Method;
import java.util.ArrayList;
import java.util.List;

/** Calls written as texts, made on an object, and their answers as texts; counts the wrong ones. */
final class Runs {
    private static final int MOST_PRINTED = 40;
    private static int rows = 0;
    private static int wrong = 0;
    private static int sentences = 0;
    private static String sentence = "";

    private Runs() {
    }

    /** A test of its own for one sentence of the document: a wrong answer in it is told with the sentence. */
    static void sentence(String text, Runnable test) {
        int before = rows;
        sentence = text + ": ";
        try {
            test.run();
        } catch (RuntimeException e) {
            due("the test itself", e, "an end without an exception");
        }
        due("a test without a call", rows == before, false);
        sentence = "";
        sentences++;
    }

    /** A run on a new object: calls and due answers in turn. */
    static SmallExhaust on(int room, String... callsAndAnswers) {
        SmallExhaust x = new SmallExhaust(room);
        more(x, callsAndAnswers);
        return x;
    }

    static void more(SmallExhaust x, String... callsAndAnswers) {
        for (int i = 0; i + 1 < callsAndAnswers.length; i += 2) {
            due(callsAndAnswers[i], answer(x, callsAndAnswers[i]), callsAndAnswers[i + 1]);
        }
    }

    static void due(String what, Object got, Object want) {
        rows++;
        if (!String.valueOf(got).equals(String.valueOf(want))) {
            wrong++;
            if (wrong <= MOST_PRINTED) {
                System.out.println(sentence + what + " answered " + got + ", due is " + want);
            }
        }
    }

    static boolean allRight() {
        return wrong == 0;
    }

    /** What a call such as "way(3, 0)" answers, or throws.NAME. */
    static String answer(Object target, String call) {
        int open = call.indexOf('(');
        String inside = call.substring(open + 1, call.indexOf(')')).trim();
        List<Integer> arguments = new ArrayList<>();
        for (String part : inside.isEmpty() ? new String[0] : inside.split(",")) {
            arguments.add(Integer.parseInt(part.trim()));
        }
        return answer(target, call.substring(0, open), arguments.toArray());
    }

    static String answer(Object target, String name, Object... arguments) {
        Class<?>[] types = new Class<?>[arguments.length];
        java.util.Arrays.fill(types, int.class);
        try {
            Method method = target.getClass().getDeclaredMethod(name, types);
            method.setAccessible(true);
            return String.valueOf(method.invoke(target, arguments));
        } catch (InvocationTargetException e) {
            return "throws." + e.getCause().getClass().getSimpleName();
        } catch (ReflectiveOperationException e) {
            return "no such call: " + name;
        }
    }

    static void end() {
        if (sentences > 0) {
            System.out.println(sentences + " sentences of the document, each with a test of its own");
        }
        System.out.println(rows + " answers looked at, " + wrong + " not as due");
        if (wrong != 0 || rows == 0) {
            System.exit(1);
        }
    }
}
