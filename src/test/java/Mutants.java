import java.io.IOException;
import java.io.OutputStream;
import java.nio.file.Files;
import java.nio.file.Path;
import java.util.ArrayList;
import java.util.Collections;
import java.util.List;
import java.util.concurrent.ExecutorService;
import java.util.concurrent.Executors;
import java.util.concurrent.TimeUnit;
import java.util.regex.Matcher;
import java.util.regex.Pattern;
import javax.tools.ToolProvider;

/**
 * Not a test: it tests the tests. It breaks the class at one place after the other and tells where no test of those
 * that are named fails by it. It takes minutes, so .ci/run leaves it out; README.md says how to run it.
 */
public final class Mutants {
    private static final Path SOURCE = Path.of("src/main/java/ForKeeps.java");
    private static final Path ROOM = Path.of("build/mutants");
    private static final String[][] SWAPS = {
        {"(?<![<>=-])<(?![<=>])", "<=", ">="}, {"(?<![<>=-])>(?![<>=])", ">=", "<="}, {"<=", "<", ">"},
        {">=", ">", "<"}, {"==", "!="}, {"!=", "=="}, {"&&", "||"}, {"\\|\\|", "&&"}, {"\\+\\+", "--"},
        {"(?<!-)--(?!-)", "++"}, {" \\+ ", " - "}, {" - ", " + "}, {" \\* ", " + "}, {" / ", " * "}, {" % ", " + "},
        {"\\btrue\\b", "false"}, {"\\bfalse\\b", "true"}, {" & ", " | "}, {" \\|= ", " = "}, {" \\+= ", " = "},
        {"Math\\.max", "Math.min"}, {"Math\\.min", "Math.max"},
        {"\\bUNKNOWN(?=;)", "OUTSIDE"}, {"\\bOUTSIDE(?=;)", "UNKNOWN", "NOT"}, {"\\bNOT(?=;)", "OUTSIDE", "FULL"},
        {"\\bFULL(?=;)", "OUTSIDE"}, {"\\bNONE\\b", "UNKNOWN", "0"},
    };

    private record Mutant(int line, String was, String is, String source) { }

    private final List<String> tests;
    private final List<String> alive = Collections.synchronizedList(new ArrayList<>());
    private int made;

    private Mutants(List<String> tests) {
        this.tests = tests;
    }

    public static void main(String[] args) throws Exception {
        new Mutants(List.of(args)).go();
    }

    private void go() throws Exception {
        List<Mutant> mutants = all(Files.readString(SOURCE));
        ExecutorService workers = Executors.newFixedThreadPool(Runtime.getRuntime().availableProcessors());
        for (int i = 0; i < mutants.size(); i++) {
            int number = i;
            workers.submit(() -> {
                tryOne(number, mutants.get(number));
                return null;
            });
        }
        workers.shutdown();
        if (!workers.awaitTermination(2, TimeUnit.HOURS)) {
            System.out.println("not all were tried");
        }
        Collections.sort(alive);
        alive.forEach(System.out::println);
        System.out.println(mutants.size() + " tried, " + made + " could be compiled, " + alive.size() + " are alive");
    }

    private static List<Mutant> all(String source) {
        List<Mutant> mutants = new ArrayList<>();
        String[] lines = source.split("\n");
        for (int i = 0; i < lines.length; i++) {
            String code = lines[i].replaceAll("//.*", "");
            String start = code.trim();
            if (start.startsWith("*") || start.startsWith("/*") || start.startsWith("import")) {
                continue;
            }
            for (String[] swap : SWAPS) {
                for (int k = 1; k < swap.length; k++) {
                    swapEach(mutants, lines, i, Pattern.compile(swap[0]), swap[k]);
                }
            }
            numbers(mutants, lines, i, code);
            if (start.matches("[\\w.\\[\\] ]+(\\(.*\\)|\\+\\+|--|\\+=.*|\\|=.*|=.*);") && !start.startsWith("return")
                && !start.matches("(private|final|static|int|long|boolean|char|Thumb|Patch) .*")) {
                mutants.add(mutant(lines, i, start, code.replace(start, ";")));
            }
        }
        return mutants;
    }

    private static void swapEach(List<Mutant> mutants, String[] lines, int i, Pattern what, String by) {
        Matcher found = what.matcher(lines[i].replaceAll("//.*", ""));
        while (found.find()) {
            String is = lines[i].substring(0, found.start()) + by + lines[i].substring(found.end());
            mutants.add(mutant(lines, i, lines[i].trim(), is));
        }
    }

    private static void numbers(List<Mutant> mutants, String[] lines, int i, String code) {
        Matcher found = Pattern.compile("(?<![\\w.])(\\d+)(?=L?\\b)").matcher(code);
        while (found.find()) {
            long number = Long.parseLong(found.group(1));
            for (long other : new long[] {number + 1, number - 1}) {
                String is = lines[i].substring(0, found.start(1)) + other + lines[i].substring(found.end(1));
                mutants.add(mutant(lines, i, lines[i].trim(), is));
            }
        }
    }

    private static Mutant mutant(String[] lines, int i, String was, String is) {
        String[] copy = lines.clone();
        copy[i] = is;
        return new Mutant(i + 1, was, is.trim(), String.join("\n", copy) + "\n");
    }

    private void tryOne(int number, Mutant mutant) throws IOException, InterruptedException {
        Path room = ROOM.resolve("" + number);
        Files.createDirectories(room);
        Path file = room.resolve("ForKeeps.java");
        Files.writeString(file, mutant.source());
        OutputStream nowhere = OutputStream.nullOutputStream();
        int compiled = ToolProvider.getSystemJavaCompiler()
            .run(null, nowhere, nowhere, "-d", room.toString(), file.toString());
        if (compiled != 0) {
            return;
        }
        synchronized (this) {
            made++;
        }
        for (String test : tests) {
            if (fails(room, test)) {
                return;
            }
        }
        alive.add(String.format("line %4d: %s   ->   %s", mutant.line(), mutant.was(), mutant.is()));
    }

    private static boolean fails(Path room, String test) throws IOException, InterruptedException {
        Process process = new ProcessBuilder("java", "-XX:TieredStopAtLevel=1", "-XX:+UseSerialGC", "-Xmx256m", "-cp",
            room + ":build/test", test).redirectErrorStream(true).redirectOutput(room.resolve("log").toFile()).start();
        if (!process.waitFor(20, TimeUnit.SECONDS)) {
            process.destroyForcibly();
            return true;
        }
        return process.exitValue() != 0;
    }
}
