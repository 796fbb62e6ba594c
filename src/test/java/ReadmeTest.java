import java.io.IOException;
import java.lang.reflect.Method;
import java.nio.file.Files;
import java.nio.file.Path;
import java.util.List;
import java.util.regex.Matcher;
import java.util.regex.Pattern;
import java.util.stream.Collectors;
import java.util.stream.Stream;

/** README.md can't say what the class doesn't do: its example is run, its lists are compared with what there is. */
public final class ReadmeTest {
    private static final Checks CHECKS = new Checks("ReadmeTest");
    private static final Pattern EXAMPLE = Pattern.compile("```java\n(.*?)```", Pattern.DOTALL);
    private static final Pattern TEXT = Pattern.compile("String text = \"([^\"]*)\";");
    private static final Pattern CALL = Pattern.compile("(?m)^game\\.(\\w+)\\(([^)]*)\\);(?: +// (-?\\d+))?");
    private static final Pattern FACE = Pattern.compile("public (?:int|long) (\\w+)\\(([^)]*)\\)");
    private static final List<String> CLAUSES = List.of(
        "patch N", "slope C U", "lay C W", "steady P", "shaky P", "lucky P", "bank P", "owe A B N", "even");

    public static void main(String[] args) throws Exception {
        String readme = Files.readString(Path.of("README.md"));
        example(readme);
        for (String clause : CLAUSES) {
            isNamed(readme, clause);
        }
        calls(readme);
        constants(readme);
        tests(readme);
        CHECKS.end();
    }

    private static void isNamed(String readme, String what) {
        CHECKS.isTrue("README.md names " + what, readme.contains("`" + what + "`"));
    }

    private static void example(String readme) throws Exception {
        Matcher example = EXAMPLE.matcher(readme);
        CHECKS.isTrue("there is an example", example.find());
        Matcher text = TEXT.matcher(example.group(1));
        CHECKS.isTrue("the example has a text", text.find());
        ForKeeps game = new ForKeeps();
        Checks.type(game, text.group(1));
        Matcher call = CALL.matcher(example.group(1));
        int answers = 0;
        while (call.find()) {
            long answer = ask(game, call.group(1), call.group(2));
            boolean isTold = call.group(3) != null;
            CHECKS.isTrue(call.group() + " tells its answer", isTold);
            CHECKS.due(call.group(), answer, isTold ? Long.parseLong(call.group(3)) : answer);
            answers++;
        }
        CHECKS.isTrue("the example has answers", answers >= 10);
    }

    private static long ask(ForKeeps game, String name, String list) throws Exception {
        String[] numbers = list.isEmpty() ? new String[0] : list.split(", ");
        Class<?>[] types = Stream.of(numbers).map(number -> int.class).toArray(Class<?>[]::new);
        Object[] values = Stream.of(numbers).map(Integer::valueOf).toArray();
        Method method = ForKeeps.class.getMethod(name, types);
        return ((Number) method.invoke(game, values)).longValue();
    }

    private static void calls(String readme) throws IOException {
        Matcher face = FACE.matcher(Files.readString(Path.of("src/main/java/ForKeeps.java")));
        int found = 0;
        while (face.find()) {
            isNamed(readme, face.group(1) + "(" + face.group(2).replaceAll("\\bint ", "") + ")");
            found++;
        }
        CHECKS.due("calls of the face", found, 27);
    }

    private static void constants(String readme) {
        CHECKS.isTrue("NONE is told", readme.contains("`NONE` (" + ForKeeps.NONE + ")"));
        CHECKS.isTrue("UNKNOWN is told", readme.contains("`UNKNOWN` (" + ForKeeps.UNKNOWN + ":"));
        CHECKS.isTrue("OUTSIDE is told", readme.contains("`OUTSIDE` (" + ForKeeps.OUTSIDE + ":"));
        CHECKS.isTrue("NOT is told", readme.contains("`NOT` (" + ForKeeps.NOT + ":"));
        CHECKS.isTrue("FULL is told", readme.contains("`FULL` (" + ForKeeps.FULL + ")"));
    }

    private static void tests(String readme) throws IOException {
        List<String> names;
        try (Stream<Path> files = Files.list(Path.of("src/test/java"))) {
            names = files.map(file -> file.getFileName().toString()).filter(name -> name.endsWith("Test.java"))
                .map(name -> name.substring(0, name.length() - ".java".length())).collect(Collectors.toList());
        }
        CHECKS.isTrue("there are tests", !names.isEmpty());
        for (String name : names) {
            isNamed(readme, name);
        }
    }
}
