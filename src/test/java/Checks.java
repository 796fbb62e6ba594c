/** Compares answers with what is due, and counts those that differ. */
final class Checks {
    private final String name;
    private String sentence = "";
    private int made;
    private int wrong;

    Checks(String name) {
        this.name = name;
    }

    void due(String call, long got, long want) {
        made++;
        if (got != want) {
            wrong++;
            System.out.println(name + ": " + sentence + call + " answered " + got + ", due is " + want);
        }
    }

    void isTrue(String what, boolean holds) {
        due(what, holds ? 1 : 0, 1);
    }

    void same(String what, String got, String want) {
        made++;
        if (!got.equals(want)) {
            wrong++;
            System.out.println(name + ": " + sentence + what + ":\n  is     " + got + "\n  was    " + want);
        }
    }

    /** What the checks that follow are for: told with each that is wrong. */
    void under(String newSentence) {
        sentence = newSentence.isEmpty() ? "" : "'" + newSentence + "': ";
    }

    int made() {
        return made;
    }

    int wrong() {
        return wrong;
    }

    /** Ends the program: with 1 if an answer was wrong. */
    void end() {
        System.out.println(name + ": " + made + " checks, " + wrong + " wrong");
        if (wrong != 0) {
            System.exit(1);
        }
    }

    static void type(ForKeeps x, String text) {
        for (int i = 0; i < text.length(); i++) {
            x.write(text.charAt(i));
        }
    }

    /** A new object that was told these texts, one behind the other. */
    static ForKeeps told(String... texts) {
        ForKeeps x = new ForKeeps();
        for (String text : texts) {
            tell(x, text);
        }
        return x;
    }

    static void tell(ForKeeps x, String text) {
        type(x, text);
        if (x.patch() < 1) {
            throw new IllegalStateException("a text of a test has a fault: " + text);
        }
    }

    /** All that can be asked and changes nothing, in one text. */
    static String look(ForKeeps x) {
        StringBuilder all = new StringBuilder();
        for (int what = 0; what < 10; what++) {
            all.append(x.count(what)).append(' ');
        }
        for (int c = 0; c < 10; c++) {
            all.append(x.cell(c, 0)).append('/').append(x.cell(c, 1)).append('/').append(x.slopes(c)).append(' ');
        }
        for (int p = 0; p < 6; p++) {
            for (int other = 0; other < 6; other++) {
                all.append(x.debt(p, other)).append(' ');
            }
            for (int what = 0; what < 4; what++) {
                all.append(x.player(p, what)).append(' ');
            }
        }
        return all.append(x.fault()).toString();
    }
}
