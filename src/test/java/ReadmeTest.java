import java.io.IOException;
import java.nio.file.Files;
import java.nio.file.Path;
import java.util.List;
import java.util.Set;
import java.util.TreeSet;
import java.util.regex.Matcher;
import java.util.regex.Pattern;
import java.util.stream.Collectors;
import java.util.stream.Stream;

/** What README.md tells: the answers of its example, every call of the face in it, and every test named. */
public final class ReadmeTest {
    private static final Pattern MADE = Pattern.compile("SmallExhaust x = new SmallExhaust\\((-?\\d+)\\);.*");
    private static final Pattern CALL = Pattern.compile("x\\.(\\w+)(\\([-\\d, ]*\\)); *// (throws )?([-\\w]+):.*");

    public static void main(String[] args) throws IOException {
        String readme = Files.readString(Path.of("README.md"));
        Set<String> asked = example(readme.substring(readme.indexOf("```java") + 8).lines().toList());
        Set<String> face = Stream.of(SmallExhaust.class.getMethods())
                .filter(method -> method.getDeclaringClass() == SmallExhaust.class)
                .map(method -> method.getName()).collect(Collectors.toCollection(TreeSet::new));
        Runs.due("calls in the example", asked, face);
        for (String name : testNames()) {
            Runs.due("README.md names " + name, readme.contains("`" + name + "`"), true);
        }
        Runs.due("README.md names .ci/run", readme.contains("\n.ci/run\n"), true);
        Runs.end();
    }

    /** Makes the calls up to the example's end, and tells which ones these were. */
    private static Set<String> example(List<String> lines) {
        Set<String> asked = new TreeSet<>();
        Matcher made = MADE.matcher(lines.get(0));
        Runs.due("the example begins with a new object", made.matches(), true);
        SmallExhaust x = new SmallExhaust(Integer.parseInt(made.group(1)));
        for (String line : lines.subList(1, lines.indexOf("```"))) {
            Matcher call = CALL.matcher(line);
            if (call.matches()) {
                String due = (call.group(3) == null ? "" : "throws.") + call.group(4);
                Runs.more(x, call.group(1) + call.group(2), due);
                asked.add(call.group(1));
            } else {
                Runs.due("a row of the example", line, "a call and its answer");
            }
        }
        return asked;
    }

    private static List<String> testNames() throws IOException {
        try (Stream<Path> files = Files.list(Path.of("src/test/java"))) {
            return files.map(file -> file.getFileName().toString()).filter(name -> name.endsWith("Test.java"))
                    .map(name -> name.replace(".java", "")).sorted().toList();
        }
    }
}
