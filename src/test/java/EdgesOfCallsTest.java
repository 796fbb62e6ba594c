import java.io.IOException;
import java.util.function.Supplier;

/** Promises 1 to 28: what each call refuses, and what it answers where there is nothing. */
public final class EdgesOfCallsTest {
    private static final int NONE = -1, UNKNOWN = -2, OUTSIDE = -3, NOT = -4, FULL = -5;
    /** The state on which calls are refused: something of everything. */
    private static final Supplier<ForKeeps> BUSY = EdgesOfCallsTest::busy;
    private static Edges edges;

    public static void main(String[] args) throws IOException {
        edges = new Edges("EdgesOfCallsTest");
        told();
        shots();
        foretold();
        seen();
        chances();
        edges.end();
    }

    private static void told() {
        edges.of("`ForKeeps()`: Six level cells, nobody.", EdgesOfCallsTest::newObject);
        edges.of("A letter (its number, 0 .. 255) more of THE TEXT: how many it has. OUTSIDE; FULL.",
            EdgesOfCallsTest::write);
        edges.of("THE TEXT is empty: how many letters it had.", EdgesOfCallsTest::erase);
        edges.of("The place of the FAULT (the letter with which the TOKEN begins, or the length); NONE.",
            EdgesOfCallsTest::fault);
        edges.of("THE TEXT's CLAUSES are done, and it is empty then: how many there were. NOT: it has a FAULT.",
            EdgesOfCallsTest::patch);
        edges.of("Of a CELL: SLOPE (what 0; 0 .. 4), WORTH of what lies there (1; 0: nothing). UNKNOWN; OUTSIDE.",
            EdgesOfCallsTest::cell);
        edges.of("Of a PLAYER: KIND (what 0), PURSE (1), what he owes in all (2), is owed in all (3). UNKNOWN; OUTSIDE.",
            EdgesOfCallsTest::player);
        edges.of("What one owes another one. UNKNOWN.", EdgesOfCallsTest::debt);
        edges.of("A PLAYER taken as a KIND (0 .. 4, as they are over one another): what he has of a MARBLE of WORTH 9"
            + " that he HITS. UNKNOWN; OUTSIDE; NOT: he is none such.", EdgesOfCallsTest::as);
    }

    private static void shots() {
        edges.of("A SHOT: where it STOPS; NONE: where it was. UNKNOWN; OUTSIDE; NOT: he has nothing; FULL",
            EdgesOfCallsTest::shoot);
        edges.of("One PAYS another one n (1 .. 99): what he owes him yet. UNKNOWN; OUTSIDE; NOT: it is more than he owes,"
            + " or has.", EdgesOfCallsTest::pay);
        edges.of("The latest shoot(), pay() is undone (the last 8 can be): how many can be undone yet.",
            EdgesOfCallsTest::undoEight);
        edges.of("how many can be undone yet. NOT: none.", EdgesOfCallsTest::undoNone);
        edges.of("All as it is (but SEEN, what can be undone) is kept (k 0, 1): SHOTS.", EdgesOfCallsTest::keepAll);
        edges.of("is kept (k 0, 1): SHOTS. UNKNOWN: no such k.", EdgesOfCallsTest::keepOfTwo);
        edges.of("It is as it was kept, nothing can be undone: SHOTS.", EdgesOfCallsTest::backAsKept);
        edges.of("UNKNOWN; NOT: nothing was kept since the last text.", EdgesOfCallsTest::backOfNothing);
    }

    private static void foretold() {
        edges.of("STOP (what 0; NONE), HIT (1). OUTSIDE.", EdgesOfCallsTest::stop);
        edges.of("ODDS. UNKNOWN; OUTSIDE.", EdgesOfCallsTest::odds);
        edges.of("MEAN, and 9999. UNKNOWN; OUTSIDE.", EdgesOfCallsTest::mean);
        edges.of("BEST: the FORCE (what 0), how much, and 9999 (1). UNKNOWN; OUTSIDE.", EdgesOfCallsTest::best);
        edges.of("TWO: the FORCES (what 0), how much (1). OUTSIDE.", EdgesOfCallsTest::two);
    }

    private static void seen() {
        edges.of("SEEN: how many. OUTSIDE; FULL.", EdgesOfCallsTest::seenRefused);
        edges.of("SEEN is nothing: how many there were.", EdgesOfCallsTest::forget);
        edges.of("SLOPES, by bits. UNKNOWN.", EdgesOfCallsTest::slopes);
    }

    private static void chances() {
        edges.of("RUIN (that he comes to b). OUTSIDE.", EdgesOfCallsTest::ruin);
        edges.of("NETTED.", EdgesOfCallsTest::netted);
        edges.of("RING; NONE. UNKNOWN.", EdgesOfCallsTest::ring);
        edges.of("POOR, by bits.", EdgesOfCallsTest::poor);
        edges.of("RAIN. OUTSIDE.", EdgesOfCallsTest::rain);
        edges.of("0 CELLS, 1 PLAYERS, 2 SHOTS, 3 MARBLES that lie, by bits, 4 WORTHS of them together, 5 PURSES of all, 6"
            + " DEBTS of all, 7 SEEN, 8 how many can be undone, 9 letters of THE TEXT. OUTSIDE.",
            EdgesOfCallsTest::count);
    }

    /** Four cells; players 0 to 2, the last with nothing; a shot, kept; a payment; one seen; an unfinished text. */
    private static ForKeeps busy() {
        ForKeeps x = Checks.told("patch 4;slope 1 3;lay 3 9;steady 5;bank 2;shaky 0;owe 0 1 3");
        x.shoot(0, 1, 0);
        x.keep(0);
        x.pay(0, 1, 1);
        x.seen(1, 0);
        Checks.type(x, "ev");
        return x;
    }

    // ---- what is told

    private static void newObject() {
        ForKeeps x = new ForKeeps();
        edges.due("cells", x.count(0), 6);
        for (int c = 0; c < 6; c++) {
            edges.due("slope of " + c, x.cell(c, 0), 2);
            edges.due("nothing on " + c, x.cell(c, 1), 0);
        }
        for (int what = 1; what <= 9; what++) {
            edges.due("count(" + what + ")", x.count(what), 0);
        }
        edges.due("player 0", x.player(0, 0), UNKNOWN);
        edges.due("a fault of nothing", x.fault(), 0);
        edges.due("undo", x.undo(), NOT);
        edges.due("back(0)", x.back(0), NOT);
        edges.due("back(1)", x.back(1), NOT);
        edges.due("forget", x.forget(), 0);
        edges.due("netted", x.netted(), 0);
        edges.due("poor", x.poor(), 0);
        ForKeeps y = Checks.told("lay 0 9;bank 9");
        edges.due("another object is by itself", y.count(3) + x.count(3), 1);
    }

    private static void write() {
        ForKeeps x = new ForKeeps();
        edges.due("write(0)", x.write(0), 1);
        edges.due("write(255)", x.write(255), 2);
        for (int letter : Edges.beside(0, 255)) {
            edges.refused("write(" + letter + ")", BUSY, y -> y.write(letter), OUTSIDE);
        }
        Supplier<ForKeeps> full = () -> {
            ForKeeps y = busy();
            y.erase();
            Checks.type(y, "even" + " ".repeat(156));
            return y;
        };
        edges.due("letters of a full one", full.get().count(9), 160);
        edges.refused("write on a full text", full, y -> y.write('x'), FULL);
        edges.refused("write(256) on a full text", full, y -> y.write(256), OUTSIDE);
        ForKeeps z = full.get();
        z.erase();
        edges.due("write when it is empty again", z.write('x'), 1);
    }

    private static void erase() {
        ForKeeps x = new ForKeeps();
        edges.due("of nothing", x.erase(), 0);
        Checks.type(x, "e");
        edges.due("of one letter", x.erase(), 1);
        edges.due("letters then", x.count(9), 0);
        edges.due("fault then", x.fault(), 0);
        edges.due("patch then", x.patch(), NOT);
        Checks.type(x, "x".repeat(161));
        edges.due("of a full text", x.erase(), 160);
        edges.due("again", x.erase(), 0);
        Checks.type(x, "patch 9");
        x.erase();
        Checks.type(x, "patch");
        edges.due("what was there is not read again", x.fault(), 5);
    }

    private static void fault() {
        edges.faultAt("", 0);
        edges.faultAt("even", NONE);
        edges.faultAt("x", 0);
        edges.faultAt("   even  x", 9);
        edges.faultAt("even;", 5);
        edges.refused("fault of a text with none", () -> Checks.told("bank 3"), x -> x.fault(), 0);
        ForKeeps x = new ForKeeps();
        Checks.type(x, "patch 4;lay 4 1");
        edges.due("asked", x.fault(), 12);
        edges.due("asked again", x.fault(), 12);
        edges.due("nothing is done by it", x.count(0), 6);
    }

    private static void patch() {
        edges.refused("an empty text", () -> Checks.told("bank 3"), x -> x.patch(), NOT);
        edges.refused("an unfinished text", BUSY, x -> x.patch(), NOT);
        Supplier<ForKeeps> lastIsWrong = () -> {
            ForKeeps x = busy();
            x.erase();
            Checks.type(x, "patch 9;lay 8 1;steady 1;even 1");
            return x;
        };
        edges.refused("a fault in the last clause", lastIsWrong, x -> x.patch(), NOT);
        edges.due("its letters stay", lastIsWrong.get().count(9), 31);
        ForKeeps x = busy();
        Checks.type(x, "en;even");
        edges.due("how many there were", x.patch(), 2);
        edges.due("it is empty then", x.count(9), 0);
        edges.due("so there is nothing more to do", x.patch(), NOT);
        edges.due("and its fault is at the end", x.fault(), 0);
    }

    private static void cell() {
        ForKeeps x = busy();
        edges.due("cell(0, 1): lies by a shot", x.cell(0, 1), 1);
        edges.due("cell(1, 0)", x.cell(1, 0), 3);
        edges.due("cell(1, 1): nothing", x.cell(1, 1), 0);
        edges.due("cell(3, 1)", x.cell(3, 1), 9);
        for (int cell : Edges.beside(0, 3)) {
            edges.refused("cell(" + cell + ", 0)", BUSY, y -> y.cell(cell, 0), UNKNOWN);
        }
        for (int what : Edges.beside(0, 1)) {
            edges.refused("cell(0, " + what + ")", BUSY, y -> y.cell(0, what), OUTSIDE);
        }
        edges.due("both are wrong", x.cell(4, 2), UNKNOWN);
    }

    private static void player() {
        ForKeeps x = busy();
        int[][] due = {{0, 3, 2, 0}, {3, 3, 0, 2}, {1, 0, 0, 0}};
        for (int p = 0; p < 3; p++) {
            for (int what = 0; what < 4; what++) {
                edges.due("player(" + p + ", " + what + ")", x.player(p, what), due[p][what]);
            }
        }
        for (int p : Edges.beside(0, 2)) {
            edges.refused("player(" + p + ", 0)", BUSY, y -> y.player(p, 0), UNKNOWN);
        }
        for (int what : Edges.beside(0, 3)) {
            edges.refused("player(0, " + what + ")", BUSY, y -> y.player(0, what), OUTSIDE);
        }
        edges.due("both are wrong", x.player(3, 4), UNKNOWN);
        ForKeeps y = Checks.told("bank 1;bank 1;bank 1;bank 1;bank 1", "owe 0 1 99;owe 0 2 99;owe 0 3 99;owe 0 4 99",
            "owe 1 4 99;owe 2 4 99;owe 3 4 99");
        edges.due("most that one owes", y.player(0, 2), 396);
        edges.due("most that one is owed", y.player(4, 3), 396);
    }

    private static void debt() {
        ForKeeps x = busy();
        edges.due("debt(0, 1)", x.debt(0, 1), 2);
        edges.due("debt(1, 0): nothing", x.debt(1, 0), 0);
        for (int p : Edges.beside(0, 2)) {
            edges.refused("debt(" + p + ", 0)", BUSY, y -> y.debt(p, 0), UNKNOWN);
            edges.refused("debt(0, " + p + ")", BUSY, y -> y.debt(0, p), UNKNOWN);
            edges.refused("debt(" + p + ", " + p + ")", BUSY, y -> y.debt(p, p), UNKNOWN);
        }
        for (int p = 0; p < 3; p++) {
            edges.due("one and himself, " + p, x.debt(p, p), UNKNOWN);
        }
    }

    private static void as() {
        ForKeeps x = busy();
        int[][] due = {{9, 9, NOT, NOT, NOT}, {4, NOT, NOT, NOT, 4}, {9, 9, 9, NOT, NOT}};
        for (int p = 0; p < 3; p++) {
            for (int kind = 0; kind < 5; kind++) {
                edges.due("as(" + p + ", " + kind + ")", x.as(p, kind), due[p][kind]);
            }
        }
        edges.refused("none such", BUSY, y -> y.as(1, 1), NOT);
        for (int p : Edges.beside(0, 2)) {
            edges.refused("as(" + p + ", 0)", BUSY, y -> y.as(p, 0), UNKNOWN);
        }
        for (int kind : Edges.beside(0, 4)) {
            edges.refused("as(0, " + kind + ")", BUSY, y -> y.as(0, kind), OUTSIDE);
        }
        edges.due("both are wrong", x.as(3, 5), UNKNOWN);
        edges.due("lucky as lucky", Checks.told("lucky 0").as(0, 3), 9);
        edges.due("lucky as shaky", Checks.told("lucky 0").as(0, 2), NOT);
    }

    // ---- shots

    private static void shoot() {
        edges.due("where it stops", busy().shoot(0, 1, 0), 0);
        edges.due("in the gutter", Checks.told("patch 4;bank 1").shoot(0, 5, 0), 4);
        edges.due("where it was", busy().shoot(0, 0, 0), NONE);
        for (int p : Edges.beside(0, 2)) {
            edges.refused("shoot(" + p + ", 1, 0)", BUSY, x -> x.shoot(p, 1, 0), UNKNOWN);
        }
        for (int force : Edges.beside(0, 9)) {
            edges.refused("shoot(0, " + force + ", 0)", BUSY, x -> x.shoot(0, force, 0), OUTSIDE);
        }
        for (int z : Edges.beside(0, 9999)) {
            edges.refused("shoot(0, 1, " + z + ")", BUSY, x -> x.shoot(0, 1, z), OUTSIDE);
        }
        edges.refused("who has nothing", BUSY, x -> x.shoot(2, 1, 0), NOT);
        edges.refused("who has nothing, by 10", BUSY, x -> x.shoot(2, 10, 0), OUTSIDE);
        edges.refused("nobody, by 10", BUSY, x -> x.shoot(3, 10, 10000), UNKNOWN);
    }

    private static void pay() {
        edges.due("1", busy().pay(0, 1, 1), 1);
        edges.due("all", busy().pay(0, 1, 2), 0);
        edges.due("99", Checks.told("bank 99;bank 0;owe 0 1 99").pay(0, 1, 99), 0);
        edges.refused("more than he owes", BUSY, x -> x.pay(0, 1, 3), NOT);
        edges.refused("he owes nothing", BUSY, x -> x.pay(1, 0, 1), NOT);
        edges.refused("more than he has", () -> Checks.told("bank 5;bank 0;owe 0 1 9"), x -> x.pay(0, 1, 6), NOT);
        edges.due("all that he has", Checks.told("bank 5;bank 0;owe 0 1 9").pay(0, 1, 5), 4);
        for (int p : Edges.beside(0, 2)) {
            edges.refused("pay(" + p + ", 0, 1)", BUSY, x -> x.pay(p, 0, 1), UNKNOWN);
            edges.refused("pay(0, " + p + ", 1)", BUSY, x -> x.pay(0, p, 1), UNKNOWN);
        }
        for (int n : Edges.beside(1, 99)) {
            edges.refused("pay(0, 1, " + n + ")", BUSY, x -> x.pay(0, 1, n), OUTSIDE);
        }
        edges.refused("to himself", BUSY, x -> x.pay(0, 0, 1), UNKNOWN);
        edges.refused("to himself, 0", BUSY, x -> x.pay(0, 0, 0), UNKNOWN);
        edges.refused("0 of nothing", BUSY, x -> x.pay(1, 0, 0), OUTSIDE);
        edges.refused("100 of nothing", BUSY, x -> x.pay(1, 0, 100), OUTSIDE);
    }

    /** Does the i-th of a row of shots and payments that never ends. */
    private static void play(ForKeeps x, int i) {
        if (i % 3 == 2) {
            x.pay(0, 1, 1);
        } else {
            x.shoot(i % 2, i % 5, i);
        }
    }

    private static void undoEight() {
        String text = "patch 4;lay 2 9;steady 50;shaky 50;owe 0 1 90";
        for (int made = 1; made <= 20; made++) {
            ForKeeps x = Checks.told(text);
            String[] before = new String[made];
            for (int i = 0; i < made; i++) {
                before[i] = Edges.brief(x);
                play(x, i);
            }
            int can = Math.min(8, made);
            edges.due("can be undone behind " + made, x.count(8), can);
            for (int i = 1; i <= can; i++) {
                edges.due("undo " + i + " of " + made, x.undo(), can - i);
                edges.isTrue("as it was before " + (made - i), Edges.brief(x).equals(before[made - i]));
            }
            edges.due("one more than can be", x.undo(), NOT);
            edges.due("none can be", x.count(8), 0);
            play(x, made);
            edges.due("a new one can be", x.undo(), 0);
        }
        undoOfSome();
    }

    /** Undone and made by turns, past the eight. */
    private static void undoOfSome() {
        ForKeeps x = Checks.told("patch 4;lay 2 9;steady 50;shaky 50;owe 0 1 90");
        for (int i = 0; i < 11; i++) {
            play(x, i);
        }
        edges.due("first", x.undo(), 7);
        edges.due("second", x.undo(), 6);
        String there = Edges.brief(x);
        play(x, 1);
        edges.due("one more", x.count(8), 7);
        play(x, 2);
        play(x, 3);
        edges.due("eight again, not nine", x.count(8), 8);
        x.undo();
        x.undo();
        edges.due("back behind the one more", x.undo(), 5);
        edges.isTrue("as it was there", Edges.brief(x).equals(there));
    }

    private static void undoNone() {
        edges.refused("of a new object", ForKeeps::new, x -> x.undo(), NOT);
        edges.refused("of what was told", () -> Checks.told("bank 9;bank 9;owe 0 1 3"), x -> x.undo(), NOT);
        ForKeeps x = Checks.told("bank 9;bank 0;owe 0 1 3");
        x.shoot(1, 1, 0);
        x.shoot(0, 10, 0);
        x.pay(0, 1, 4);
        x.seen(1, 0);
        x.keep(0);
        edges.due("nothing but refused ones, seen, kept", x.undo(), NOT);
        x.shoot(0, 1, 0);
        edges.due("one was made", x.undo(), 0);
        edges.due("it was undone", x.undo(), NOT);
        edges.due("seen stays", x.count(7), 1);
        edges.due("kept stays", x.back(0), 0);
    }

    private static void keepAll() {
        ForKeeps x = busy();
        String before = Edges.toTheEnd(busy()).replaceAll(" \\| back.*", "");
        x.keep(1);
        edges.isTrue("nothing changes by it", Edges.toTheEnd(x).replaceAll(" \\| back.*", "").equals(before));
        ForKeeps y = busy();
        String kept = Edges.brief(y);
        edges.due("shots", y.keep(1), 1);
        y.shoot(0, 4, 0);
        y.shoot(0, 2, 0);
        edges.due("all is paid since", y.pay(0, 1, 2), 0);
        y.seen(2, 1);
        edges.due("shots again", y.back(1), 1);
        edges.due("it is owed again", y.debt(0, 1), 2);
        edges.isTrue("marbles, purses, debts, shots", Edges.brief(y).equals(kept));
        edges.due("seen is not kept: it stays", y.count(7), 2);
        edges.due("what could be undone is not kept", y.count(8), 0);
        ForKeeps z = busy();
        z.keep(1);
        z.forget();
        z.back(1);
        edges.due("seen is not kept: it does not come again", z.count(7), 0);
        edges.due("the text that is being written stays", z.count(9), 2);
    }

    private static void keepOfTwo() {
        edges.due("keep(0)", busy().keep(0), 1);
        edges.due("keep(1)", busy().keep(1), 1);
        for (int k : Edges.beside(0, 1)) {
            edges.refused("keep(" + k + ")", BUSY, x -> x.keep(k), UNKNOWN);
        }
        ForKeeps x = Checks.told("bank 9");
        edges.due("none yet", x.keep(0), 0);
        x.shoot(0, 1, 0);
        x.keep(1);
        x.shoot(0, 9, 0);
        edges.due("each by itself: 0", x.back(0), 0);
        edges.due("each by itself: 1", x.back(1), 1);
        x.shoot(0, 9, 0);
        x.shoot(0, 9, 0);
        edges.due("in place of what was kept", x.keep(0), 3);
        x.back(1);
        edges.due("the later one", x.back(0), 3);
    }

    private static void backAsKept() {
        ForKeeps x = busy();
        x.shoot(0, 4, 0);
        edges.due("shots", x.back(0), 1);
        edges.due("marbles", x.count(3), 9);
        edges.due("purses", x.count(5), 6);
        edges.due("debts", x.count(6), 3);
        edges.due("how many can be undone", x.count(8), 0);
        edges.due("undo", x.undo(), NOT);
        x.shoot(0, 1, 0);
        edges.due("one can be undone then", x.count(8), 1);
        edges.due("again", x.back(0), 1);
        edges.due("marbles again", x.count(3), 9);
        ForKeeps y = Checks.told("shaky 9");
        y.keep(0);
        y.shoot(0, 0, 0);
        y.back(0);
        edges.due("shots count for the draw as they were kept", y.shoot(0, 3, 5), 1);
    }

    private static void backOfNothing() {
        for (int k : Edges.beside(0, 1)) {
            edges.refused("back(" + k + ")", BUSY, x -> x.back(k), UNKNOWN);
        }
        edges.refused("nothing kept in 1", BUSY, x -> x.back(1), NOT);
        edges.refused("nothing kept in 0", () -> Checks.told("bank 3"), x -> x.back(0), NOT);
        ForKeeps x = busy();
        x.keep(1);
        Checks.type(x, "en");
        x.patch();
        edges.due("kept in 0 before the last text", x.back(0), NOT);
        edges.due("kept in 1 before the last text", x.back(1), NOT);
        x.keep(1);
        edges.due("kept in 1 since", x.back(1), 0);
        edges.due("not in 0", x.back(0), NOT);
    }

    // ---- foretold

    private static void stop() {
        ForKeeps x = busy();
        edges.due("stop(0, 0)", x.stop(0, 0), NONE);
        edges.due("stop(0, 1)", x.stop(0, 1), 0);
        edges.due("stop(1, 0)", x.stop(1, 0), 0);
        edges.due("stop(1, 1)", x.stop(1, 1), 1);
        edges.due("stop(9, 0)", x.stop(9, 0), 0);
        for (int force : Edges.beside(0, 9)) {
            edges.refused("stop(" + force + ", 0)", BUSY, y -> y.stop(force, 0), OUTSIDE);
            edges.due("stop(" + force + ", 1)", x.stop(force, 1), OUTSIDE);
        }
        for (int what : Edges.beside(0, 1)) {
            edges.refused("stop(0, " + what + ")", BUSY, y -> y.stop(0, what), OUTSIDE);
        }
    }

    private static void odds() {
        ForKeeps x = busy();
        edges.due("above", x.odds(2, 1, 0), 3);
        edges.due("below", x.odds(2, 1, 1), 4);
        edges.due("by 0", x.odds(0, 0, 0), 0);
        edges.due("by 9", x.odds(0, 9, 0), 1);
        for (int p : Edges.beside(0, 2)) {
            edges.refused("odds(" + p + ", 1, 0)", BUSY, y -> y.odds(p, 1, 0), UNKNOWN);
        }
        for (int force : Edges.beside(0, 9)) {
            edges.refused("odds(0, " + force + ", 0)", BUSY, y -> y.odds(0, force, 0), OUTSIDE);
        }
        for (int part : Edges.beside(0, 1)) {
            edges.refused("odds(0, 1, " + part + ")", BUSY, y -> y.odds(0, 1, part), OUTSIDE);
        }
        edges.due("all are wrong", x.odds(3, 10, 2), UNKNOWN);
    }

    private static void mean() {
        ForKeeps x = busy();
        edges.due("of one who has nothing", x.mean(2, 1), 9999 + 3);
        edges.due("by 0", x.mean(0, 0), 9999);
        edges.due("by 9", x.mean(0, 9), 9999 + 4);
        edges.due("a bank's", x.mean(1, 9), 9999);
        for (int p : Edges.beside(0, 2)) {
            edges.refused("mean(" + p + ", 1)", BUSY, y -> y.mean(p, 1), UNKNOWN);
        }
        for (int force : Edges.beside(0, 9)) {
            edges.refused("mean(0, " + force + ")", BUSY, y -> y.mean(0, force), OUTSIDE);
        }
        edges.due("both are wrong", x.mean(3, 10), UNKNOWN);
    }

    private static void best() {
        ForKeeps x = busy();
        edges.due("the force", x.best(0, 0), 1);
        edges.due("how much", x.best(0, 1), 9999 + 4);
        edges.due("a shaky one's force", x.best(2, 0), 2);
        edges.due("a bank's force", x.best(1, 0), 0);
        for (int p : Edges.beside(0, 2)) {
            edges.refused("best(" + p + ", 0)", BUSY, y -> y.best(p, 0), UNKNOWN);
        }
        for (int what : Edges.beside(0, 1)) {
            edges.refused("best(0, " + what + ")", BUSY, y -> y.best(0, what), OUTSIDE);
        }
        edges.due("both are wrong", x.best(3, 2), UNKNOWN);
    }

    private static void two() {
        ForKeeps x = busy();
        // by 1 what lies on the first cell; by 5, up the second cell, what lies on the last one
        edges.due("the forces", x.two(0), 15);
        edges.due("how much", x.two(1), 10);
        for (int what : Edges.beside(0, 1)) {
            edges.refused("two(" + what + ")", BUSY, y -> y.two(what), OUTSIDE);
        }
    }

    // ---- what was seen

    private static void seenRefused() {
        edges.due("one more", busy().seen(9, 4), 2);
        for (int force : Edges.beside(0, 9)) {
            edges.refused("seen(" + force + ", 0)", BUSY, x -> x.seen(force, 0), OUTSIDE);
        }
        for (int stop : Edges.beside(NONE, 4)) {
            edges.refused("seen(0, " + stop + ")", BUSY, x -> x.seen(0, stop), OUTSIDE);
        }
        Supplier<ForKeeps> full = () -> {
            ForKeeps x = busy();
            for (int i = 0; i < 5; i++) {
                x.seen(0, NONE);
            }
            return x;
        };
        edges.refused("a seventh", full, x -> x.seen(0, 0), FULL);
        edges.refused("a seventh, by 10", full, x -> x.seen(10, 0), OUTSIDE);
        edges.refused("a seventh, beyond the gutter", full, x -> x.seen(0, 5), OUTSIDE);
        ForKeeps y = full.get();
        y.forget();
        edges.due("again behind forget", y.seen(0, 0), 1);
    }

    private static void forget() {
        edges.due("nothing", new ForKeeps().forget(), 0);
        ForKeeps x = busy();
        edges.due("one", x.forget(), 1);
        edges.due("none then", x.forget(), 0);
        edges.due("how many", x.count(7), 0);
        edges.due("all slopes fit then", x.slopes(0), 31);
        for (int i = 0; i < 7; i++) {
            x.seen(0, NONE);
        }
        edges.due("six", x.forget(), 6);
    }

    private static void slopes() {
        ForKeeps x = busy();
        edges.due("of the first", x.slopes(0), 4 + 8 + 16);
        edges.due("of the last", x.slopes(3), 31);
        for (int cell : Edges.beside(0, 3)) {
            edges.refused("slopes(" + cell + ")", BUSY, y -> y.slopes(cell), UNKNOWN);
        }
        x.seen(1, 3);
        edges.due("none", x.slopes(0), 0);
    }

    // ---- debts, chances

    private static void ruin() {
        ForKeeps x = new ForKeeps();
        edges.due("above", x.ruin(1, 2, 4, 0), 2);
        edges.due("below", x.ruin(1, 2, 4, 1), 5);
        for (int a : Edges.beside(0, 8)) {
            edges.due("ruin(" + a + ", 8, 5, 0)", x.ruin(a, 8, 5, 0), OUTSIDE);
        }
        for (int b : Edges.beside(1, 8)) {
            edges.due("ruin(0, " + b + ", 5, 0)", x.ruin(0, b, 5, 0), OUTSIDE);
        }
        for (int q : Edges.beside(0, 10)) {
            edges.due("ruin(1, 2, " + q + ", 0)", x.ruin(1, 2, q, 0), OUTSIDE);
        }
        for (int part : Edges.beside(0, 1)) {
            edges.refused("ruin(1, 2, 5, " + part + ")", BUSY, y -> y.ruin(1, 2, 5, part), OUTSIDE);
        }
        edges.due("b below a", x.ruin(2, 1, 5, 0), OUTSIDE);
        edges.due("b as a", x.ruin(2, 2, 5, 0), 1);
    }

    private static void netted() {
        edges.due("nobody", new ForKeeps().netted(), 0);
        ForKeeps x = busy();
        edges.due("one owes", x.netted(), 1);
        x.pay(0, 1, 2);
        edges.due("all is paid", x.netted(), 0);
        x.undo();
        edges.due("undone", x.netted(), 1);
        ForKeeps y = Checks.told("bank 0;bank 0;bank 0;bank 0;bank 0;owe 0 1 1;owe 2 3 1;owe 4 0 2");
        edges.due("five", y.netted(), 3);
        Checks.tell(y, "patch 4");
        edges.due("nobody any more", y.netted(), 0);
        Checks.tell(y, "bank 0;bank 0;owe 1 0 3");
        edges.due("two", y.netted(), 1);
    }

    private static void ring() {
        ForKeeps x = Checks.told("bank 9;bank 9;bank 9;owe 0 1 1;owe 1 0 1");
        edges.due("two", x.ring(0), 2);
        edges.due("none", x.ring(2), NONE);
        for (int p : Edges.beside(0, 2)) {
            edges.refused("ring(" + p + ")", BUSY, y -> y.ring(p), UNKNOWN);
        }
        x.pay(0, 1, 1);
        edges.due("none when one is paid", x.ring(0), NONE);
        edges.due("nobody", new ForKeeps().ring(0), UNKNOWN);
    }

    private static void poor() {
        edges.due("nobody", new ForKeeps().poor(), 0);
        edges.due("none", busy().poor(), 0);
        ForKeeps x = busy();
        x.shoot(0, 2, 0);
        x.shoot(0, 0, 0);
        edges.due("none by a hit", x.poor(), 0);
        ForKeeps y = Checks.told("bank 0;bank 0;bank 0;owe 0 1 1;owe 2 1 1");
        edges.due("two of three", y.poor(), 5);
    }

    private static void rain() {
        ForKeeps x = new ForKeeps();
        edges.due("above", x.rain(2, 1, 2, 0), 9);
        edges.due("below", x.rain(2, 1, 2, 1), 25);
        for (int n : Edges.beside(0, 6)) {
            edges.due("rain(" + n + ", 1, 5, 0)", x.rain(n, 1, 5, 0), OUTSIDE);
            edges.due("rain(6, " + n + ", 5, 0)", x.rain(6, n, 5, 0), OUTSIDE);
        }
        for (int q : Edges.beside(0, 10)) {
            edges.due("rain(6, 1, " + q + ", 0)", x.rain(6, 1, q, 0), OUTSIDE);
        }
        for (int part : Edges.beside(0, 1)) {
            edges.refused("rain(6, 1, 5, " + part + ")", BUSY, y -> y.rain(6, 1, 5, part), OUTSIDE);
        }
        edges.due("no day: none at least", x.rain(0, 0, 5, 0), 1);
        edges.due("more than there are days", x.rain(0, 6, 5, 0), 0);
        edges.due("more than there are days, below", x.rain(0, 6, 5, 1), 1);
    }

    private static void count() {
        ForKeeps x = busy();
        int[] due = {4, 3, 1, 9, 10, 6, 2, 1, 2, 2};
        for (int what = 0; what <= 9; what++) {
            edges.due("count(" + what + ")", x.count(what), due[what]);
        }
        for (int what : Edges.beside(0, 9)) {
            edges.refused("count(" + what + ")", BUSY, y -> y.count(what), OUTSIDE);
        }
        ForKeeps most = Checks.told("patch 9;lay 0 20;lay 1 20;lay 2 20;lay 3 20;lay 4 20",
            "lay 5 20;lay 6 20;lay 7 20;lay 8 20;bank 99;bank 99;bank 99;bank 99;bank 99");
        edges.due("all cells have one", most.count(3), 511);
        edges.due("worths at most", most.count(4), 180);
        edges.due("purses at most as told", most.count(5), 495);
    }
}
