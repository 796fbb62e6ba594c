import java.io.IOException;

/** The document's 'Terms', its part 1: the bounds of what texts tell, and where their faults are. */
public final class EdgesOfTextsTest {
    private static final int NONE = -1, UNKNOWN = -2, NOT = -4, FULL = -5;
    private static final String[] KINDS = {"steady", "shaky", "lucky", "bank"};
    private static final String FIVE = "steady 1;shaky 2;lucky 3;bank 4;steady 5";
    private static Edges edges;

    public static void main(String[] args) throws IOException {
        edges = new Edges("EdgesOfTextsTest");
        bounds();
        clauses();
        faults();
        done();
        edges.end();
    }

    private static void bounds() {
        edges.of("THE PATCH has CELLS 0 .. n less 1 (n 4 ..", EdgesOfTextsTest::cellsFromNoneToLast);
        edges.of("9; 6 at first)", EdgesOfTextsTest::nineAtMostSixAtFirst);
        edges.of("each with a SLOPE (2 down .. 2 up, as numbers 0 .. 4: 2 is none, as at first)",
            EdgesOfTextsTest::slopesOfNoneToFour);
        edges.of("on which a MARBLE lies, of a WORTH (1 .. 20), or none", EdgesOfTextsTest::worthsOfOneToTwenty);
        edges.of("PLAYERS are 0, 1 .. as they come, 5 at most (none at first)", EdgesOfTextsTest::fivePlayersAtMost);
        edges.of("of a KIND, 0 STEADY, 1 SHAKY, 2 LUCKY, 3 BANK", EdgesOfTextsTest::fourKinds);
        edges.of("with a PURSE (0 .. 99)", EdgesOfTextsTest::pursesToNinetyNine);
        edges.of("so much does one owe another one (0 at first, 99 at most)", EdgesOfTextsTest::debtsToNinetyNine);
        edges.of("THE TEXT is a row of letters, 160 at most", EdgesOfTextsTest::lettersAtMost);
        edges.of("CLAUSES with ; between, 14 at most", EdgesOfTextsTest::clausesAtMost);
    }

    private static void clauses() {
        edges.of("each is one of: patch N. slope C U. lay C W. steady P. shaky P. lucky P. bank P. owe A B N. even.",
            EdgesOfTextsTest::nineWords);
        edges.of("(As written here, without points;", EdgesOfTextsTest::withoutPoints);
        edges.of("patch: N CELLS, no SLOPES, no MARBLES, no PLAYERS, no DEBTS", EdgesOfTextsTest::patchIsEmpty);
        edges.of("slope: of CELL C (U 0 .. 4)", EdgesOfTextsTest::slopeOfCellThatIs);
        edges.of("lay: a MARBLE of WORTH W on CELL C, in place of what lies there", EdgesOfTextsTest::layInPlace);
        edges.of("steady ..: a PLAYER more with PURSE P, a sixth cannot stand there (at its word)",
            EdgesOfTextsTest::sixthAtItsWord);
        edges.of("owe: A owes B N (0 .. 99), in place of what it was", EdgesOfTextsTest::oweInPlace);
        edges.of("A, B unlike (else a FAULT at B)", EdgesOfTextsTest::oweUnlike);
        edges.of("even: no DEBTS", EdgesOfTextsTest::evenOfMany);
        edges.of("small letters a .. z", EdgesOfTextsTest::smallLettersAlone);
        edges.of("numbers of 1 or 2 digits", EdgesOfTextsTest::oneOrTwoDigits);
        edges.of("blanks between", EdgesOfTextsTest::blanksAlone);
        edges.of("what earlier texts told stays", EdgesOfTextsTest::earlierTextsStay);
    }

    private static void faults() {
        edges.of("A FAULT is at the first TOKEN", EdgesOfTextsTest::firstOfSeveral);
        edges.of("(a row of small letters, a row of digits, any other letter)", EdgesOfTextsTest::whereTokensBegin);
        edges.of("that cannot stand there", EdgesOfTextsTest::tokensInEachPlace);
        edges.of("(a number out of its bounds, of more digits, also)", EdgesOfTextsTest::numbersOutOfBounds);
        edges.of("or at the end, if it comes too soon", EdgesOfTextsTest::endTooSoon);
    }

    private static void done() {
        edges.of("CLAUSES are done in their order.", EdgesOfTextsTest::inTheirOrder);
        edges.of("Behind them all is as told (MARBLES, PURSES, DEBTS, however it was)", EdgesOfTextsTest::asTold);
        edges.of("no SHOT was made, nothing is SEEN, nothing is kept or can be undone", EdgesOfTextsTest::allForgotten);
    }

    // ---- bounds

    private static void cellsFromNoneToLast() {
        edges.faultAt("patch 0", 6);
        edges.faultAt("patch 3", 6);
        edges.faultAt("patch 4", NONE);
        for (int n = 4; n <= 9; n++) {
            ForKeeps x = Checks.told("patch " + n);
            edges.due("cells of patch " + n, x.count(0), n);
            edges.due("the first of " + n, x.cell(0, 0), 2);
            edges.due("the last of " + n, x.cell(n - 1, 0), 2);
            edges.due("behind the last of " + n, x.cell(n, 0), UNKNOWN);
            edges.due("ahead of the first of " + n, x.cell(-1, 0), UNKNOWN);
        }
    }

    private static void nineAtMostSixAtFirst() {
        edges.faultAt("patch 9", NONE);
        edges.faultAt("patch 10", 6);
        edges.faultAt("patch 99", 6);
        ForKeeps x = new ForKeeps();
        edges.due("cells at first", x.count(0), 6);
        edges.due("the last at first", x.cell(5, 0), 2);
        edges.due("behind the last at first", x.cell(6, 0), UNKNOWN);
        edges.faultAt("lay 5 1", NONE);
        edges.faultAt("lay 6 1", 4);
    }

    private static void slopesOfNoneToFour() {
        for (int c = 0; c < 6; c++) {
            edges.due("slope of " + c + " at first", new ForKeeps().cell(c, 0), 2);
        }
        for (int u = 0; u <= 4; u++) {
            edges.due("slope " + u, Checks.told("slope 5 " + u).cell(5, 0), u);
        }
        edges.faultAt("slope 5 5", 8);
        // by a force of 1: down a slope it goes on, level it does not
        edges.due("2 down", Checks.told("slope 0 0;slope 1 4").stop(1, 0), 1);
        edges.due("none", Checks.told("slope 0 2;slope 1 4").stop(1, 0), 0);
        edges.due("2 up", Checks.told("slope 0 4").stop(3, 0), 0);
    }

    private static void worthsOfOneToTwenty() {
        edges.due("none at first", new ForKeeps().count(3), 0);
        edges.faultAt("lay 0 0", 6);
        edges.due("a worth of 1", Checks.told("lay 0 1").cell(0, 1), 1);
        edges.due("a worth of 20", Checks.told("lay 0 20").cell(0, 1), 20);
        edges.due("none beside it", Checks.told("lay 0 20").cell(1, 1), 0);
        edges.faultAt("lay 0 21", 6);
        edges.faultAt("lay 0 99", 6);
    }

    private static void fivePlayersAtMost() {
        ForKeeps x = new ForKeeps();
        edges.due("players at first", x.count(1), 0);
        edges.due("player 0 at first", x.player(0, 1), UNKNOWN);
        for (int p = 0; p < 5; p++) {
            Checks.tell(x, "bank " + (10 + p));
            edges.due("players, one more", x.count(1), p + 1);
            edges.due("the latest", x.player(p, 1), 10 + p);
            edges.due("the first yet", x.player(0, 1), 10);
            edges.due("behind the latest", x.player(p + 1, 1), UNKNOWN);
        }
        edges.faultAt(x, "bank 15", 0);
        edges.due("five yet", x.count(1), 5);
        edges.due("five in one text", Checks.told(FIVE).count(1), 5);
    }

    private static void fourKinds() {
        for (int kind = 0; kind < 4; kind++) {
            edges.due(KINDS[kind], Checks.told(KINDS[kind] + " 7").player(0, 0), kind);
        }
    }

    private static void pursesToNinetyNine() {
        for (String kind : KINDS) {
            edges.due(kind + " with nothing", Checks.told(kind + " 0").player(0, 1), 0);
            edges.due(kind + " with most", Checks.told(kind + " 99").player(0, 1), 99);
            edges.faultAt(kind + " 100", kind.length() + 1);
        }
    }

    private static void debtsToNinetyNine() {
        ForKeeps x = Checks.told(FIVE);
        for (int p = 0; p < 5; p++) {
            for (int other = 0; other < 5; other++) {
                edges.due("debt of " + p + " to " + other + " at first", x.debt(p, other), p == other ? UNKNOWN : 0);
            }
        }
        Checks.tell(x, "owe 4 3 99;owe 3 4 1");
        edges.due("most", x.debt(4, 3), 99);
        edges.due("least", x.debt(3, 4), 1);
        edges.faultAt(x, "owe 4 3 100", 8);
        edges.due("99 yet", x.debt(4, 3), 99);
    }

    private static void lettersAtMost() {
        ForKeeps x = new ForKeeps();
        for (int i = 1; i <= 160; i++) {
            edges.due("letter " + i, x.write(' '), i);
        }
        edges.due("letter 161", x.write(' '), FULL);
        edges.due("letters", x.count(9), 160);
        edges.due("the end of a full text of blanks", x.fault(), 160);
        edges.faultAt("even" + " ".repeat(156), NONE);
        edges.faultAt(" ".repeat(156) + "even", NONE);
        edges.faultAt("even" + " ".repeat(155) + "x", 159);
        edges.faultAt(" ".repeat(155) + "patch", 160);
        edges.faultAt(" ".repeat(153) + "patch 4", NONE);
        edges.faultAt(" ".repeat(152) + "patch 10", 158);
        ForKeeps y = new ForKeeps();
        Checks.type(y, " ".repeat(153) + "patch 4x");
        edges.due("what is FULL is not written", y.fault(), NONE);
        edges.due("a full text is done", y.patch(), 1);
        edges.due("and told", y.count(0), 4);
    }

    private static void clausesAtMost() {
        String fourteen = "even" + ";even".repeat(13);
        edges.faultAt(fourteen, NONE);
        edges.faultAt(fourteen + "  ", NONE);
        edges.faultAt(fourteen + ";even", fourteen.length());
        edges.faultAt(fourteen + "  ;even", fourteen.length() + 2);
        edges.faultAt(fourteen + ";", fourteen.length());
        edges.faultAt("even" + ";even".repeat(12), NONE);
        edges.faultAt("even even", 5);
        edges.faultAt("even,even", 4);
        edges.faultAt("even:even", 4);
        edges.faultAt("even;;even", 5);
        edges.faultAt(";even", 0);
        ForKeeps x = new ForKeeps();
        Checks.type(x, "lay 0 1" + ";even".repeat(12) + ";lay 1 2");
        edges.due("fourteen are done", x.patch(), 14);
        edges.due("the first of them", x.cell(0, 1), 1);
        edges.due("the last of them", x.cell(1, 1), 2);
        edges.due("one is done", patchOf("even"), 1);
    }

    private static int patchOf(String text) {
        ForKeeps x = new ForKeeps();
        Checks.type(x, text);
        return x.patch();
    }

    // ---- clauses

    private static void nineWords() {
        edges.faultAt("patch 4;slope 0 1;lay 0 2;steady 3;shaky 4;lucky 5;bank 6;owe 0 1 7;even", NONE);
        String[] words = {"patch", "slope", "lay", "steady", "shaky", "lucky", "bank", "owe", "even"};
        for (String word : words) {
            edges.faultAt(word.substring(1), 0);
            edges.faultAt(word.substring(0, word.length() - 1), 0);
            edges.faultAt(word + "s", 0);
            edges.faultAt("s" + word, 0);
            edges.faultAt(word.substring(0, word.length() - 1) + "z", 0);
            edges.faultAt("z" + word.substring(1), 0);
        }
    }

    private static void withoutPoints() {
        edges.faultAt("even.", 4);
        edges.faultAt("patch 4.", 7);
        edges.faultAt("patch. 4", 5);
    }

    private static void patchIsEmpty() {
        ForKeeps x = Checks.told("patch 9;slope 0 0;slope 8 4;lay 0 1;lay 8 20", FIVE + ";owe 0 4 9;owe 4 0 8");
        Checks.tell(x, "patch 4");
        edges.due("cells", x.count(0), 4);
        edges.due("slope", x.cell(0, 0), 2);
        edges.due("marbles", x.count(3), 0);
        edges.due("worths", x.count(4), 0);
        edges.due("players", x.count(1), 0);
        edges.due("purses", x.count(5), 0);
        edges.due("debts", x.count(6), 0);
        Checks.tell(x, FIVE);
        edges.due("debts among those who come then", x.count(6), 0);
        edges.due("debt of the first to the last", x.debt(0, 4), 0);
        Checks.tell(x, "patch 9");
        edges.due("the last of nine: slope", x.cell(8, 0), 2);
        edges.due("the last of nine: nothing lies", x.cell(8, 1), 0);
        ForKeeps y = Checks.told("lay 5 3;slope 5 0;bank 1;patch 6");
        edges.due("as many cells as before: nothing lies", y.count(3), 0);
        edges.due("as many cells as before: level", y.cell(5, 0), 2);
        edges.due("as many cells as before: nobody", y.count(1), 0);
    }

    private static void slopeOfCellThatIs() {
        edges.due("the first", Checks.told("slope 0 0").cell(0, 0), 0);
        edges.due("the last of six", Checks.told("slope 5 4").cell(5, 0), 4);
        edges.due("beside it", Checks.told("slope 5 4").cell(4, 0), 2);
        edges.faultAt("slope 6 0", 6);
        edges.faultAt("patch 9;slope 8 0", NONE);
        edges.faultAt("patch 9;slope 9 0", 14);
        edges.faultAt("patch 4;slope 3 0", NONE);
        edges.faultAt("patch 4;slope 4 0", 14);
        edges.faultAt("slope 0 4", NONE);
        edges.faultAt("slope 0 5", 8);
        edges.due("the later one", Checks.told("slope 1 4;slope 1 3").cell(1, 0), 3);
    }

    private static void layInPlace() {
        edges.due("one for another", Checks.told("lay 0 5;lay 0 7").cell(0, 1), 7);
        edges.due("worths together", Checks.told("lay 0 5;lay 0 7").count(4), 7);
        edges.due("in a later text", Checks.told("lay 0 5", "lay 0 2").count(4), 2);
        edges.faultAt("lay 5 1", NONE);
        edges.faultAt("lay 6 1", 4);
        edges.faultAt("patch 9;lay 8 1", NONE);
        edges.faultAt("patch 9;lay 9 1", 12);
        edges.faultAt("patch 4;lay 3 1", NONE);
        edges.faultAt("patch 4;lay 4 1", 12);
    }

    private static void sixthAtItsWord() {
        ForKeeps x = Checks.told(FIVE);
        for (String kind : KINDS) {
            edges.faultAt(FIVE + ";" + kind + " 1", FIVE.length() + 1);
            edges.faultAt(FIVE + "; " + kind + " 1", FIVE.length() + 2);
            edges.faultAt(FIVE + ";" + kind + " 100", FIVE.length() + 1);
            edges.faultAt(FIVE + ";" + kind, FIVE.length() + 1);
            edges.faultAt(x, kind + " 1", 0);
            edges.faultAt(FIVE + ";patch 4;" + kind + " 1", NONE);
        }
        edges.faultAt(FIVE.substring(0, FIVE.lastIndexOf(';')), NONE);
        edges.faultAt(FIVE, NONE);
        edges.due("five yet", x.count(1), 5);
    }

    private static void oweInPlace() {
        String two = "bank 1;bank 1;";
        edges.faultAt(two + "owe 0 1 0", NONE);
        edges.faultAt(two + "owe 0 1 99", NONE);
        edges.faultAt(two + "owe 0 1 100", two.length() + 8);
        edges.due("one for another", Checks.told(two + "owe 0 1 5;owe 0 1 7").debt(0, 1), 7);
        edges.due("0 for another", Checks.told(two + "owe 0 1 5;owe 0 1 0").debt(0, 1), 0);
        edges.due("in a later text", Checks.told(two + "owe 0 1 5", "owe 0 1 3").debt(0, 1), 3);
        edges.due("the other way stays", Checks.told(two + "owe 0 1 5;owe 1 0 7").debt(0, 1), 5);
    }

    private static void oweUnlike() {
        String two = "bank 1;bank 1;";
        edges.faultAt(two + "owe 0 0 5", two.length() + 6);
        edges.faultAt(two + "owe 1 1 5", two.length() + 6);
        edges.faultAt(two + "owe 1 01 5", two.length() + 6);
        edges.faultAt(two + "owe 1 1", two.length() + 6);
        edges.faultAt(two + "owe 0 1 0;owe 1 0 1", NONE);
        edges.faultAt(two + "owe 2 2 5", two.length() + 4);
        edges.faultAt(two + "owe 2 0 5", two.length() + 4);
        edges.faultAt(two + "owe 0 2 5", two.length() + 6);
        edges.faultAt("owe 0 1 5", 4);
        edges.faultAt(FIVE + ";owe 4 0 1;owe 0 4 1", NONE);
        edges.faultAt(FIVE + ";owe 5 0 1", FIVE.length() + 5);
        edges.faultAt(two + "patch 4;owe 0 1 5", two.length() + 12);
    }

    private static void evenOfMany() {
        ForKeeps x = Checks.told(FIVE, "owe 0 1 1;owe 0 4 2;owe 4 0 3;owe 3 4 99", "even");
        edges.due("debts of all", x.count(6), 0);
        edges.due("players stay", x.count(1), 5);
        edges.due("purses stay", x.count(5), 15);
        edges.due("even of nobody", patchOf("even"), 1);
        edges.due("debts behind it", Checks.told(FIVE + ";owe 0 1 5;even;owe 1 0 4").count(6), 4);
    }

    private static void smallLettersAlone() {
        edges.faultAt("Even", 0);
        edges.faultAt("evEn", 0);
        edges.faultAt("EVEN", 0);
        // a letter beside a .. z is a token of its own, a and z are not
        edges.faultAt("even" + (char) ('a' - 1), 4);
        edges.faultAt("even" + (char) ('z' + 1), 4);
        edges.faultAt("evena", 0);
        edges.faultAt("evenz", 0);
        edges.faultAt("even;a", 5);
        edges.faultAt("even;z", 5);
        edges.faultAt("even" + (char) 225, 4);
    }

    private static void oneOrTwoDigits() {
        edges.due("one", Checks.told("bank 7").player(0, 1), 7);
        edges.due("two", Checks.told("bank 70").player(0, 1), 70);
        edges.due("two, the first 0", Checks.told("bank 07").player(0, 1), 7);
        edges.due("two of 0", Checks.told("bank 00").player(0, 1), 0);
        edges.faultAt("bank 007", 5);
        edges.faultAt("bank 000", 5);
        edges.faultAt("bank 4294967297", 5);
        edges.faultAt("bank 18446744073709551617", 5);
        edges.faultAt("bank 0" + "1".repeat(150), 5);
        edges.faultAt("patch 04", NONE);
        edges.faultAt("patch 004", 6);
        edges.faultAt("bank 9" + (char) ('0' - 1), 6);
        edges.faultAt("bank 9" + (char) ('9' + 1), 6);
        edges.faultAt("bank " + (char) ('0' - 1), 5);
        edges.faultAt("bank " + (char) ('9' + 1), 5);
        edges.faultAt("bank " + (char) 178, 5);
        edges.faultAt("bank -1", 5);
        edges.faultAt("bank +1", 5);
    }

    private static void blanksAlone() {
        edges.faultAt("  bank  1  ;  bank  2  ;  owe  0  1  3  ", NONE);
        edges.faultAt("bank1;bank2;owe0 1 3", NONE);
        edges.faultAt("bank1 2", 6);
        edges.faultAt("ba nk 1", 0);
        edges.faultAt("bank 1 0", 7);
        for (int letter : new int[] {0, 9, 10, 13, 31, 33, 127, 160, 255}) {
            edges.faultAt("bank" + (char) letter + "1", 4);
            edges.faultAt((char) letter + "bank 1", 0);
            edges.faultAt("bank 1" + (char) letter, 6);
        }
    }

    private static void earlierTextsStay() {
        ForKeeps x = Checks.told("patch 5;slope 1 0;lay 2 3;steady 4;bank 5;owe 0 1 6", "slope 3 4;owe 1 0 2;lucky 9");
        edges.due("cells", x.count(0), 5);
        edges.due("slope", x.cell(1, 0), 0);
        edges.due("worth", x.cell(2, 1), 3);
        edges.due("kind", x.player(1, 0), 3);
        edges.due("purse", x.player(0, 1), 4);
        edges.due("debt", x.debt(0, 1), 6);
        edges.due("the newcomer is the third", x.player(2, 0), 2);
        edges.faultAt(x, "slope 4 0;slope 5 0", 16);
        edges.due("what a text with a fault told is not told", x.cell(4, 0), 2);
    }

    // ---- faults

    private static void firstOfSeveral() {
        edges.faultAt("patch 3;patch 3", 6);
        edges.faultAt("lay 9 99;gate", 4);
        edges.faultAt("lay 0 99;gate", 6);
        edges.faultAt("lay 0 9;gate", 8);
        edges.faultAt("gate;gate", 0);
        edges.faultAt("even;gate;", 5);
        edges.faultAt("lay 0 1;slope 0 0;even 1", 23);
    }

    private static void whereTokensBegin() {
        edges.faultAt("   gate", 3);
        edges.faultAt("patch   44", 8);
        edges.faultAt("patch ..", 6);
        edges.faultAt("even..", 4);
        edges.faultAt("patch 4even", 7);
        edges.faultAt("patch 4x4", 7);
        edges.faultAt("x4", 0);
        edges.faultAt("4x", 0);
        edges.faultAt("patch x4", 6);
        edges.faultAt("bank 1;;", 7);
    }

    private static void tokensInEachPlace() {
        edges.faultAt("4", 0);
        edges.faultAt(";", 0);
        edges.faultAt(".", 0);
        edges.faultAt("patch patch", 6);
        edges.faultAt("patch ;", 6);
        edges.faultAt("patch .", 6);
        edges.faultAt("patch 4 4", 8);
        edges.faultAt("patch 4 patch", 8);
        edges.faultAt("even 4", 5);
        edges.faultAt("slope x 1", 6);
        edges.faultAt("slope 1 x", 8);
        edges.faultAt("slope 1;", 7);
        edges.faultAt("slope 1 1 1", 10);
        edges.faultAt("lay ; 1", 4);
        edges.faultAt("lay 1;", 5);
        edges.faultAt("lay 1 1 1", 8);
        edges.faultAt("lucky 1 1", 8);
        edges.faultAt("bank 1;bank 1;owe x", 18);
        edges.faultAt("bank 1;bank 1;owe 0 x", 20);
        edges.faultAt("bank 1;bank 1;owe 0 1 x", 22);
        edges.faultAt("bank 1;bank 1;owe 0 1;", 21);
        edges.faultAt("bank 1;bank 1;owe 0 1 1 1", 24);
    }

    private static void numbersOutOfBounds() {
        edges.faultAt("patch 3", 6);
        edges.faultAt("patch 10", 6);
        edges.faultAt("patch 009", 6);
        edges.faultAt("slope 6 1", 6);
        edges.faultAt("slope 10 1", 6);
        edges.faultAt("slope 005 1", 6);
        edges.faultAt("slope 1 5", 8);
        edges.faultAt("slope 1 001", 8);
        edges.faultAt("lay 6 1", 4);
        edges.faultAt("lay 005 1", 4);
        edges.faultAt("lay 1 0", 6);
        edges.faultAt("lay 1 00", 6);
        edges.faultAt("lay 1 21", 6);
        edges.faultAt("lay 1 020", 6);
        for (String kind : KINDS) {
            edges.faultAt(kind + " 100", kind.length() + 1);
            edges.faultAt(kind + " 099", kind.length() + 1);
        }
        edges.faultAt("bank 1;bank 1;owe 2 0 1", 18);
        edges.faultAt("bank 1;bank 1;owe 000 1 1", 18);
        edges.faultAt("bank 1;bank 1;owe 0 2 1", 20);
        edges.faultAt("bank 1;bank 1;owe 0 001 1", 20);
        edges.faultAt("bank 1;bank 1;owe 0 1 100", 22);
        edges.faultAt("bank 1;bank 1;owe 0 1 001", 22);
    }

    private static void endTooSoon() {
        String[] texts = {
            "", "patch", "slope", "slope 1", "lay", "lay 1", "steady", "shaky", "lucky", "bank", "even;", "even;even;",
            "bank 1;bank 1;owe", "bank 1;bank 1;owe 0", "bank 1;bank 1;owe 0 1",
        };
        for (String text : texts) {
            edges.faultAt(text, text.length());
            edges.faultAt(text + "   ", text.length() + 3);
        }
    }

    // ---- done

    private static void inTheirOrder() {
        edges.due("lay, lay", Checks.told("lay 0 5;lay 0 6").cell(0, 1), 6);
        edges.due("lay, patch", Checks.told("lay 0 5;patch 4").cell(0, 1), 0);
        edges.due("patch, lay", Checks.told("patch 4;lay 0 5").cell(0, 1), 5);
        edges.due("owe, even", Checks.told("bank 1;bank 1;owe 0 1 5;even").debt(0, 1), 0);
        edges.due("even, owe", Checks.told("bank 1;bank 1;even;owe 0 1 5").debt(0, 1), 5);
        edges.faultAt("owe 0 1 5;bank 1;bank 1", 4);
        edges.faultAt("lay 8 1;patch 9", 4);
        edges.faultAt("patch 9;patch 4;lay 8 1", 20);
        edges.due("who comes first", Checks.told("lucky 1;shaky 1").player(0, 0), 2);
    }

    private static void asTold() {
        ForKeeps x = Checks.told("lay 0 3;lay 2 9;steady 10;bank 20;owe 0 1 8");
        x.shoot(0, 1, 0);
        x.shoot(0, 3, 0);
        x.shoot(0, 2, 0);
        x.shoot(1, 9, 0);
        x.shoot(1, 9, 0);
        x.pay(0, 1, 5);
        x.keep(0);
        Checks.tell(x, "slope 5 1");
        edges.due("marbles as told", x.count(3), 5);
        edges.due("worth of the first as told", x.cell(0, 1), 3);
        edges.due("worth of the other as told", x.cell(2, 1), 9);
        edges.due("a purse as told", x.player(0, 1), 10);
        edges.due("another purse as told", x.player(1, 1), 20);
        edges.due("a debt as told", x.debt(0, 1), 8);
        x.shoot(0, 2, 0);
        x.shoot(0, 1, 0);
        x.pay(0, 1, 8);
        Checks.tell(x, "lay 1 2;owe 1 0 1");
        edges.due("marbles as told in three texts", x.count(3), 7);
        edges.due("worths as told in three texts", x.count(4), 14);
        edges.due("purses as told", x.count(5), 30);
        edges.due("debts as told in two texts", x.count(6), 9);
        edges.due("slope as told in the second", x.cell(5, 0), 1);
        x.shoot(0, 1, 0);
        Checks.type(x, "lay 0 3;lay 9 9");
        edges.due("a text with a fault", x.patch(), NOT);
        edges.due("it is not as told behind that", x.count(3), 6);
    }

    private static void allForgotten() {
        ForKeeps x = Checks.told("steady 10;bank 20;owe 0 1 8");
        x.shoot(0, 1, 0);
        x.pay(0, 1, 5);
        x.seen(1, 0);
        x.keep(0);
        x.keep(1);
        Checks.type(x, "even;");
        edges.due("a text with a fault", x.patch(), NOT);
        edges.due("a shot was made yet", x.count(2), 1);
        edges.due("one is seen yet", x.count(7), 1);
        edges.due("two can be undone yet", x.count(8), 2);
        x.erase();
        Checks.tell(x, "even");
        edges.due("shots", x.count(2), 0);
        edges.due("seen", x.count(7), 0);
        edges.due("all slopes fit", x.slopes(0), 31);
        edges.due("how many can be undone", x.count(8), 0);
        edges.due("undo", x.undo(), NOT);
        edges.due("back(0)", x.back(0), NOT);
        edges.due("back(1)", x.back(1), NOT);
        edges.due("shots as at first: the draw too", Checks.told("shaky 9").shoot(0, 3, 5), 1);
        ForKeeps y = Checks.told("shaky 9");
        y.shoot(0, 0, 0);
        Checks.tell(y, "even");
        edges.due("shots of an earlier text don't count for the draw", y.shoot(0, 3, 5), 1);
    }
}
