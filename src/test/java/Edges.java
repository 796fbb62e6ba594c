import java.io.IOException;
import java.nio.file.Files;
import java.nio.file.Path;
import java.util.function.Supplier;
import java.util.function.ToLongFunction;

/** Runs one test for one sentence of the document, and holds what such tests share. */
final class Edges {
    private final Checks checks;
    /** With one blank for each gap; empty where the document is not at hand. */
    private final String document;

    Edges(String name) throws IOException {
        checks = new Checks(name);
        Path path = Path.of("../shared/DOC.md");
        document = Files.exists(path) ? Files.readString(path).replaceAll("\\s+", " ") : "";
    }

    /** The sentence is quoted, so that a test can't go on for words that the document has no more. */
    void of(String sentence, Runnable test) {
        checks.isTrue("in the document: " + sentence, document.isEmpty() || document.contains(sentence));
        int before = checks.made();
        checks.under(sentence);
        try {
            test.run();
        } catch (RuntimeException e) {
            // one sentence that is broken must not hide the others
            checks.isTrue("no " + e, false);
        }
        checks.isTrue("checks were made", checks.made() > before);
        checks.under("");
    }

    void end() {
        checks.end();
    }

    void due(String call, long got, long want) {
        checks.due(call, got, want);
    }

    void isTrue(String what, boolean holds) {
        checks.isTrue(what, holds);
    }

    /** On a new object. */
    void faultAt(String text, int want) {
        faultAt(new ForKeeps(), text, want);
    }

    /** A text with a fault is not done; one without is. The object can be used again only behind a fault. */
    void faultAt(ForKeeps x, String text, int want) {
        Checks.type(x, text);
        checks.due("fault of \"" + text + "\"", x.fault(), want);
        boolean isDone = x.patch() >= 1;
        checks.isTrue("\"" + text + "\" is done, or not", isDone == (want == ForKeeps.NONE));
        x.erase();
    }

    /** The call answers so, and behind it all is as on an object that it was not asked of. */
    void refused(String call, Supplier<ForKeeps> made, ToLongFunction<ForKeeps> asked, long want) {
        ForKeeps x = made.get();
        checks.due(call, asked.applyAsLong(x), want);
        checks.same("behind " + call, toTheEnd(x), toTheEnd(made.get()));
    }

    /** All that can be told of an object, what can be undone and what was kept too: it is used up by it. */
    static String toTheEnd(ForKeeps x) {
        StringBuilder all = new StringBuilder(Checks.look(x));
        for (int i = 0; i < 9; i++) {
            all.append(" | undo ").append(x.undo()).append(": ").append(brief(x));
        }
        for (int k = 0; k < 2; k++) {
            all.append(" | back ").append(x.back(k)).append(": ").append(brief(x));
        }
        return all.toString();
    }

    /** What shots and payments change. */
    static String brief(ForKeeps x) {
        StringBuilder all = new StringBuilder();
        int players = x.count(1);
        all.append("shots ").append(x.count(2)).append(", cells");
        for (int c = 0; c < x.count(0); c++) {
            all.append(' ').append(x.cell(c, 1));
        }
        all.append(", purses");
        for (int p = 0; p < players; p++) {
            all.append(' ').append(x.player(p, 1));
        }
        all.append(", debts");
        for (int p = 0; p < players; p++) {
            for (int other = 0; other < players; other++) {
                all.append(' ').append(x.debt(p, other));
            }
        }
        return all.toString();
    }

    /** Numbers that are too small or too large, those among them that come into the bounds again by a cut. */
    static int[] beside(int low, int high) {
        return new int[] {
            low - 1, high + 1, low - 256, low + 256 + high, low + 65536, Integer.MIN_VALUE, Integer.MIN_VALUE + low + 1,
            Integer.MAX_VALUE,
        };
    }
}
