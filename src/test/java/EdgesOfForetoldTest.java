import java.io.IOException;

/** The document's 'Terms', its part 3: what is foretold, seen, owed and by chance; and how calls are refused. */
public final class EdgesOfForetoldTest {
    private static final int NONE = -1, UNKNOWN = -2, OUTSIDE = -3, NOT = -4, FULL = -5;
    private static final String FIVE = "bank 9;bank 9;bank 9;bank 9;bank 9";
    private static Edges edges;

    public static void main(String[] args) throws IOException {
        edges = new Edges("EdgesOfForetoldTest");
        foretold();
        seen();
        chances();
        debts();
        refusals();
        edges.end();
    }

    private static void foretold() {
        edges.of("FORETOLD (nothing changes).", EdgesOfForetoldTest::nothingChanges);
        edges.of("STOP of a FORCE: where a marble STOPS (of nobody's kind)", EdgesOfForetoldTest::stopOfNobody);
        edges.of("HIT: the WORTH of what it HITS (0: nothing)", EdgesOfForetoldTest::hitOrNothing);
        edges.of("ODDS of a PLAYER, by a FORCE: that he HITS (a SHAKY one by a quarter with 1 less (0 at least), by half"
            + " as told, by a quarter with 1 more)", EdgesOfForetoldTest::oddsByQuarters);
        edges.of("MEAN of him by it, in quarters: what he has more by it (1 less, where it lies, or is in THE GUTTER)",
            EdgesOfForetoldTest::meanInQuarters);
        edges.of("BEST of him: the FORCE (0 .. 9) by which MEAN is most, of several the least; how much",
            EdgesOfForetoldTest::bestIsTheLeast);
        edges.of("TWO shots of a marble of nobody's kind, one behind the other (the first one lies where it stopped, of"
            + " WORTH 1, if it hits nothing)", EdgesOfForetoldTest::twoShots);
        edges.of("the FORCES by which WORTHS of what they HIT are most together, of several the first (10 times the"
            + " first, and the second one); how much", EdgesOfForetoldTest::twoIsTheFirst);
    }

    private static void seen() {
        edges.of("SEEN, 6 at most", EdgesOfForetoldTest::sixSeen);
        edges.of("a marble by a FORCE (0 .. 9) STOPPED on a CELL, in THE GUTTER (how many CELLS there are), or where it"
            + " was (NONE)", EdgesOfForetoldTest::seenStops);
        edges.of("no MARBLES lying", EdgesOfForetoldTest::noMarblesLying);
        edges.of("SLOPES of a CELL: numbers (0 .. 4, by bits) by which, all else being as told, all that is SEEN would be"
            + " so", EdgesOfForetoldTest::slopesByBits);
    }

    private static void chances() {
        edges.of("RUIN: the odds that one with a (0 .. 8) comes to b (1 .. 8; no less than a) before he comes to 0",
            EdgesOfForetoldTest::ruinFromAToB);
        edges.of("games being won by q of ten (0 .. 10), each for 1", EdgesOfForetoldTest::ruinByQ);
        edges.of("by none: 0", EdgesOfForetoldTest::ruinByNone);
        edges.of("by ten: 1, if a is above 0", EdgesOfForetoldTest::ruinByTen);
        edges.of("with b: 1", EdgesOfForetoldTest::ruinWithB);
        edges.of("RAIN: the odds that of n days (0 .. 6) k at least (0 .. 6) are wet, each by q of ten (0 .. 10), by"
            + " itself", EdgesOfForetoldTest::rainOfDays);
    }

    private static void debts() {
        edges.of("NETTED: the fewest payments, each of one PLAYER to another, by which nobody is owed anything any more"
            + " on the whole (what he is owed less what he owes)", EdgesOfForetoldTest::nettedByFewest);
        edges.of("RING of one: the fewest DEBTS, each of who is owed the one before, from him back to him; none",
            EdgesOfForetoldTest::ringOrNone);
        edges.of("POOR: those who owe on the whole more than their PURSE, by bits", EdgesOfForetoldTest::poorByOne);
    }

    private static void refusals() {
        edges.of("UNKNOWN (no such CELL, PLAYER; one and himself, where two are asked)", EdgesOfForetoldTest::unknown);
        edges.of("UNKNOWN (no such CELL, PLAYER; one and himself, where two are asked), OUTSIDE (another number is not as"
            + " told), NOT (not now: as told), FULL: the first of these that fits", EdgesOfForetoldTest::firstThatFits);
        edges.of("Parts are told in lowest terms: above (part 0), below (1).", EdgesOfForetoldTest::lowestTerms);
        edges.of("What may be below 0 is told with 9999 more.", EdgesOfForetoldTest::withMore);
        edges.of("An object is used for at most 512 calls after it has been made", EdgesOfForetoldTest::lastCall);
    }

    // ---- foretold

    private static ForKeeps played() {
        ForKeeps x = Checks.told("patch 5;slope 1 1;slope 3 3;lay 4 7;steady 9;shaky 3;lucky 0;bank 5;owe 1 3 9");
        x.shoot(0, 2, 0);
        x.seen(2, 2);
        x.keep(0);
        x.pay(1, 3, 2);
        Checks.type(x, "eve");
        return x;
    }

    private static void nothingChanges() {
        edges.refused("all that is foretold", EdgesOfForetoldTest::played, x -> askAll(x), 0);
    }

    /** Asks all of part 3, with numbers in and beside their bounds. */
    private static int askAll(ForKeeps x) {
        for (int force = -1; force <= 10; force += 3) {
            x.stop(force, 0);
            x.stop(force, 1);
            for (int p = 0; p < 5; p++) {
                x.odds(p, force, 0);
                x.mean(p, force);
            }
        }
        for (int p = 0; p < 5; p++) {
            x.best(p, 0);
            x.ring(p);
            x.slopes(p);
        }
        x.two(0);
        x.two(1);
        x.ruin(1, 3, 4, 0);
        x.rain(3, 1, 4, 0);
        x.netted();
        x.poor();
        return 0;
    }

    private static void stopOfNobody() {
        ForKeeps x = Checks.told("patch 4;lucky 9;shaky 9");
        edges.due("the gutter, though one is lucky", x.stop(5, 0), 4);
        edges.due("as told, though one is shaky", x.stop(3, 0), 2);
        edges.due("where it was", x.stop(0, 0), NONE);
        edges.due("nobody there", new ForKeeps().stop(9, 0), 6);
    }

    private static void hitOrNothing() {
        ForKeeps x = Checks.told("lay 1 1;bank 9");
        edges.due("a worth of 1", x.stop(2, 1), 1);
        edges.due("short of it", x.stop(1, 1), 0);
        edges.due("where it was", x.stop(0, 1), 0);
        edges.due("in the gutter", new ForKeeps().stop(9, 1), 0);
        edges.due("a worth of 20, of no bank", Checks.told("lay 5 20;bank 9").stop(6, 1), 20);
    }

    private static void odds(ForKeeps x, int player, int force, int above, int below) {
        edges.due("odds of " + player + " by " + force + ", above", x.odds(player, force, 0), above);
        edges.due("odds of " + player + " by " + force + ", below", x.odds(player, force, 1), below);
    }

    private static void oddsByQuarters() {
        ForKeeps x = Checks.told("lay 3 5;steady 0;shaky 0;lucky 0;bank 0");
        for (int p = 0; p < 4; p += p == 0 ? 2 : 1) {
            odds(x, p, 3, 0, 1);
            odds(x, p, 4, 1, 1);
        }
        odds(x, 1, 2, 0, 1);
        odds(x, 1, 3, 1, 4);
        odds(x, 1, 4, 3, 4);
        odds(x, 1, 5, 1, 1);
        // by 0 and 1 less he has 0, by 9 and 1 more he has 10
        ForKeeps y = Checks.told("lay 0 5;shaky 1");
        odds(y, 0, 0, 1, 4);
        odds(y, 0, 1, 3, 4);
        odds(y, 0, 2, 1, 1);
        ForKeeps z = Checks.told("patch 9;slope 0 3;lay 8 5;shaky 1;steady 1");
        odds(z, 0, 8, 0, 1);
        odds(z, 0, 9, 1, 4);
        odds(z, 1, 9, 0, 1);
        odds(Checks.told("patch 4;lucky 9"), 0, 9, 0, 1);
        odds(Checks.told("patch 4;lay 3 1;bank 9"), 0, 9, 1, 1);
    }

    private static void means(String text, int player, int... quarters) {
        ForKeeps x = Checks.told(text);
        for (int force = 0; force < quarters.length; force++) {
            edges.due("'" + text + "', player " + player + " by " + force, x.mean(player, force),
                9999 + quarters[force]);
        }
    }

    private static void meanInQuarters() {
        String text = "patch 4;lay 3 5;steady 0;shaky 1;lucky 2;bank 3";
        means(text, 0, 0, -4, -4, -4, 20, 20);
        means(text, 1, -1, -3, -4, -4 + 6, -1 + 15, 20);
        means(text, 2, 0, -4, -4, -4, 20, 20);
        means(text, 3, 0, -4, -4, -4, 8, 8);
        String empty = "patch 4;steady 0;shaky 1;lucky 2;bank 3";
        means(empty, 0, 0, -4, -4, -4, -4, -4, -4, -4, -4, -4);
        means(empty, 1, -1, -3, -4, -4, -4, -4, -4, -4, -4, -4);
        means(empty, 2, 0, -4, -4, -4, -4, -4, -4, -4, -4, -4);
        means(empty, 3, 0, -4, -4, -4, -4, -4, -4, -4, -4, -4);
        means("lay 0 1;bank 9", 0, 0, 0, 0);
        means("lay 0 1;shaky 9", 0, 1, 3, 4);
        means("lay 0 20;steady 99", 0, 0, 80, 80);
        // the last quarter by 10
        edges.due("1 more than 9", Checks.told("patch 9;slope 0 3;lay 8 20;shaky 1").mean(0, 9), 9999 - 3 + 20);
    }

    private static void best(String text, int player, int force, int quarters) {
        ForKeeps x = Checks.told(text);
        edges.due("best force of '" + text + "'", x.best(player, 0), force);
        edges.due("best of '" + text + "', how much", x.best(player, 1), 9999 + quarters);
    }

    private static void bestIsTheLeast() {
        best("patch 4;steady 0", 0, 0, 0);
        best("patch 4;shaky 0", 0, 0, -1);
        best("lay 0 1;steady 9", 0, 1, 4);
        best("lay 0 1;bank 9", 0, 0, 0);
        best("lay 0 2;bank 9", 0, 1, 4);
        best("lay 3 5;steady 9", 0, 4, 20);
        best("lay 3 5;shaky 9", 0, 5, 20);
        best("patch 9;lay 8 20;steady 9", 0, 9, 80);
        best("patch 9;lay 8 20;shaky 9", 0, 9, -1 + 60);
        best("patch 9;slope 0 3;lay 8 20;steady 9", 0, 0, 0);
        best("patch 9;slope 0 3;lay 8 20;shaky 9", 0, 9, -3 + 20);
        best("patch 9;lay 0 3;lay 8 20;lucky 9", 0, 1, 12);
    }

    private static void two(String text, int forces, int most) {
        ForKeeps x = Checks.told(text);
        edges.due("two of '" + text + "', forces", x.two(0), forces);
        edges.due("two of '" + text + "', how much", x.two(1), most);
    }

    private static void twoShots() {
        two("patch 4", 11, 1);
        two("lay 0 5;lay 1 9", 12, 14);
        two("lay 0 1;lucky 1;bank 2", 1, 1);
        two("lay 0 2;lay 5 20", 16, 22);
        // the first one goes to the gutter: it does not lie on the last cell, so the second one hits nothing there
        two("patch 4;slope 0 0;slope 1 0;slope 2 0;slope 3 0;lucky 9", 0, 0);
        // one that lies is worth 1, though 20 lay there before
        two("lay 0 20", 1, 20);
        // the first one stops on cell 0 and is hit; nothing else can be
        two("slope 0 4;slope 1 4;slope 2 4;slope 3 4;slope 4 4;lay 5 20", 11, 1);
        two("patch 9;slope 6 3;slope 7 0;lay 7 5;lay 8 6", 99, 11);
    }

    private static void twoIsTheFirst() {
        two("lay 5 9", 6, 9);
        two("lay 5 1", 6, 1);
        two("lay 0 1;lay 1 1", 12, 2);
        two("patch 9;lay 8 7", 9, 7);
        two("patch 9", 11, 1);
        two("patch 9;slope 0 0;slope 1 4", 11, 1);
        two("patch 4;lay 0 20;lay 1 20", 12, 40);
        two("patch 4;slope 0 0;slope 1 0;slope 2 0;slope 3 0", 0, 0);
    }

    // ---- what was seen

    private static ForKeeps seenOften(int times) {
        ForKeeps x = Checks.told("patch 4;steady 9");
        for (int i = 0; i < times; i++) {
            x.seen(1, 0);
        }
        return x;
    }

    private static void sixSeen() {
        for (int i = 0; i < 6; i++) {
            edges.due("one more than " + i, seenOften(i).seen(2, 1), i + 1);
        }
        edges.refused("a seventh", () -> seenOften(6), x -> x.seen(2, 1), FULL);
        edges.due("six are counted", seenOften(6).count(7), 6);
        edges.due("a seventh does not tell", fullThenWrong().slopes(0), 4 + 8 + 16);
        ForKeeps x = seenOften(5);
        x.seen(1, 3);
        edges.due("the sixth tells", x.slopes(0), 0);
        ForKeeps y = new ForKeeps();
        y.seen(1, 3);
        for (int i = 0; i < 5; i++) {
            y.seen(1, 0);
        }
        edges.due("the first of six tells", y.slopes(0), 0);
    }

    private static ForKeeps fullThenWrong() {
        ForKeeps x = seenOften(6);
        x.seen(1, 3);
        return x;
    }

    private static void seenStops() {
        for (int n = 4; n <= 9; n++) {
            ForKeeps x = Checks.told("patch " + n);
            edges.due("where it was", x.seen(0, NONE), 1);
            edges.due("on the first", x.seen(1, 0), 2);
            edges.due("on the last of " + n, x.seen(9, n - 1), 3);
            edges.due("in the gutter of " + n, x.seen(9, n), 4);
            edges.due("behind the gutter of " + n, x.seen(9, n + 1), OUTSIDE);
            edges.due("below NONE", x.seen(9, NONE - 1), OUTSIDE);
            edges.due("by 10", x.seen(10, 0), OUTSIDE);
            edges.due("by -1", x.seen(-1, 0), OUTSIDE);
        }
        edges.due("what can't be, too", new ForKeeps().seen(0, 5), 1);
        edges.due("and NONE by 9", new ForKeeps().seen(9, NONE), 1);
    }

    private static int slopesOf(String text, int cell, int... forcesAndStops) {
        ForKeeps x = Checks.told(text);
        for (int i = 0; i + 1 < forcesAndStops.length; i += 2) {
            x.seen(forcesAndStops[i], forcesAndStops[i + 1]);
        }
        return x.slopes(cell);
    }

    private static void noMarblesLying() {
        edges.due("one lies on the way", slopesOf("patch 4;lay 0 5", 0, 3, 2), 4);
        edges.due("one lies where it stopped", slopesOf("patch 4;lay 2 5", 0, 3, 2), 4);
        edges.due("one was shot there", slopesBehindShot(), 4);
        ForKeeps x = Checks.told("patch 4;lay 0 5");
        x.seen(3, 2);
        x.slopes(0);
        edges.due("it lies yet", x.cell(0, 1), 5);
        edges.due("its slope is as told yet", x.cell(0, 0), 2);
    }

    private static int slopesBehindShot() {
        ForKeeps x = Checks.told("patch 4;steady 9");
        x.shoot(0, 1, 0);
        x.seen(3, 2);
        return x.slopes(0);
    }

    private static void slopesByBits() {
        edges.due("nothing seen", slopesOf("patch 4", 3), 31);
        for (int u = 0; u <= 4; u++) {
            // by 6 the slope of the first cell tells by one cell
            edges.due("slope " + u + " of the first", slopesOf("patch 9", 0, 6, 7 - u), 1 << u);
        }
        edges.due("the last: it stops there", slopesOf("patch 4", 3, 4, 3), 4 + 8 + 16);
        edges.due("the last: it goes on", slopesOf("patch 4", 3, 4, 4), 1 + 2);
        edges.due("behind where it stopped: any", slopesOf("patch 4", 2, 2, 1), 31);
        edges.due("none fits", slopesOf("patch 4", 0, 1, 0, 1, 3), 0);
        edges.due("by 0 where it was: any", slopesOf("patch 4", 0, 0, NONE), 31);
        edges.due("by 0 elsewhere: none", slopesOf("patch 4", 0, 0, 0), 0);
        edges.due("by 1 where it was: none", slopesOf("patch 4", 0, 1, NONE), 0);
        edges.due("all else as told", slopesOf("patch 9;slope 1 4", 0, 6, 3), 4);
        edges.due("its own slope does not count", slopesOf("patch 9;slope 0 4", 0, 6, 5), 4);
        edges.due("both", slopesOf("patch 4", 0, 1, 0, 4, 3), 4);
        edges.due("one of the two", slopesOf("patch 4", 0, 1, 0, 4, 2), 8);
    }

    // ---- chances

    private static void ruin(int a, int b, int q, long above, long below) {
        ForKeeps x = new ForKeeps();
        edges.due("ruin(" + a + ", " + b + ", " + q + "), above", x.ruin(a, b, q, 0), above);
        edges.due("ruin(" + a + ", " + b + ", " + q + "), below", x.ruin(a, b, q, 1), below);
    }

    private static void outside(int a, int b, int q) {
        ForKeeps x = new ForKeeps();
        edges.due("ruin(" + a + ", " + b + ", " + q + ", 0)", x.ruin(a, b, q, 0), OUTSIDE);
        edges.due("ruin(" + a + ", " + b + ", " + q + ", 1)", x.ruin(a, b, q, 1), OUTSIDE);
    }

    private static void ruinFromAToB() {
        for (int b = 1; b <= 8; b++) {
            ruin(0, b, 3, 0, 1);
            ruin(b, b, 3, 1, 1);
            outside(b + 1, b, 3);
            outside(-1, b, 3);
        }
        ruin(1, 8, 5, 1, 8);
        ruin(7, 8, 5, 7, 8);
        outside(0, 0, 3);
        outside(0, 9, 3);
        outside(8, 9, 3);
        outside(9, 9, 3);
        outside(0, -1, 3);
        outside(Integer.MIN_VALUE, 8, 3);
        outside(0, Integer.MAX_VALUE, 3);
        outside(Integer.MAX_VALUE, Integer.MAX_VALUE, 3);
        outside(Integer.MIN_VALUE, Integer.MIN_VALUE, 3);
    }

    private static void ruinByQ() {
        ruin(1, 2, 0, 0, 1);
        ruin(1, 2, 1, 1, 10);
        ruin(1, 2, 5, 1, 2);
        ruin(1, 2, 9, 9, 10);
        ruin(1, 2, 10, 1, 1);
        ruin(2, 3, 6, 15, 19);
        ruin(1, 3, 4, 4, 19);
        ruin(1, 8, 1, 1, 5380840);
        ruin(7, 8, 9, 5380839, 5380840);
        outside(1, 2, -1);
        outside(1, 2, 11);
        outside(1, 2, Integer.MIN_VALUE);
        outside(1, 2, Integer.MAX_VALUE);
    }

    private static void ruinByNone() {
        for (int b = 2; b <= 8; b++) {
            for (int a = 0; a < b; a++) {
                ruin(a, b, 0, 0, 1);
            }
        }
        ruin(0, 1, 0, 0, 1);
    }

    private static void ruinByTen() {
        for (int b = 1; b <= 8; b++) {
            for (int a = 1; a <= b; a++) {
                ruin(a, b, 10, 1, 1);
            }
            ruin(0, b, 10, 0, 1);
        }
    }

    private static void ruinWithB() {
        for (int b = 1; b <= 8; b++) {
            for (int q = 0; q <= 10; q++) {
                ruin(b, b, q, 1, 1);
            }
        }
    }

    private static void rain(int n, int k, int q, int above, int below) {
        ForKeeps x = new ForKeeps();
        edges.due("rain(" + n + ", " + k + ", " + q + "), above", x.rain(n, k, q, 0), above);
        edges.due("rain(" + n + ", " + k + ", " + q + "), below", x.rain(n, k, q, 1), below);
    }

    private static void rainOutside(int n, int k, int q) {
        ForKeeps x = new ForKeeps();
        edges.due("rain(" + n + ", " + k + ", " + q + ", 0)", x.rain(n, k, q, 0), OUTSIDE);
        edges.due("rain(" + n + ", " + k + ", " + q + ", 1)", x.rain(n, k, q, 1), OUTSIDE);
    }

    private static void rainOfDays() {
        for (int n = 0; n <= 6; n++) {
            rain(n, 0, 3, 1, 1);
            rain(n, 0, 0, 1, 1);
            rain(n, n, 10, 1, 1);
            if (n < 6) {
                rain(n, n + 1, 10, 0, 1);
                rain(n, 6, 7, 0, 1);
            }
            if (n > 0) {
                rain(n, n, 0, 0, 1);
            }
        }
        rain(1, 1, 1, 1, 10);
        rain(1, 1, 9, 9, 10);
        rain(2, 1, 5, 3, 4);
        rain(2, 2, 5, 1, 4);
        rain(6, 6, 1, 1, 1000000);
        rain(6, 1, 9, 999999, 1000000);
        rain(6, 5, 5, 7, 64);
        rain(4, 2, 7, 9163, 10000);
        for (int wrong : Edges.beside(0, 6)) {
            rainOutside(wrong, 0, 5);
            rainOutside(6, wrong, 5);
        }
        for (int wrong : Edges.beside(0, 10)) {
            rainOutside(6, 1, wrong);
        }
    }

    // ---- debts

    private static void netted(String debts, int want) {
        edges.due("netted of '" + debts + "'", Checks.told(FIVE, debts).netted(), want);
    }

    private static void nettedByFewest() {
        edges.due("nobody", new ForKeeps().netted(), 0);
        edges.due("one alone", Checks.told("bank 1").netted(), 0);
        edges.due("two", Checks.told("bank 0;bank 0;owe 1 0 99").netted(), 1);
        netted("even", 0);
        netted("owe 0 4 1", 1);
        netted("owe 0 1 5;owe 1 0 5", 0);
        netted("owe 0 1 5;owe 1 0 4", 1);
        netted("owe 0 1 5;owe 1 2 5;owe 2 3 5;owe 3 4 5;owe 4 0 5", 0);
        netted("owe 0 1 5;owe 1 2 5;owe 2 3 5;owe 3 4 5", 1);
        netted("owe 0 1 5;owe 2 3 5", 2);
        netted("owe 0 1 5;owe 0 2 4;owe 3 4 2", 3);
        netted("owe 0 1 1;owe 0 2 1;owe 0 3 1;owe 0 4 1", 4);
        netted("owe 0 4 99;owe 1 4 98;owe 2 4 97;owe 3 4 96", 4);
        // 0 owes 3 and 1 owes 4; 2 is owed 4 and 3 is owed 3: the one who owes 3 pays the one who is owed 3
        netted("owe 0 2 3;owe 1 2 1;owe 1 3 3", 2);
    }

    private static void rings(String debts, int... want) {
        ForKeeps x = Checks.told(FIVE, debts);
        for (int p = 0; p < want.length; p++) {
            edges.due("ring of " + p + " by '" + debts + "'", x.ring(p), want[p]);
        }
    }

    private static void ringOrNone() {
        edges.due("one alone", Checks.told("bank 1").ring(0), NONE);
        rings("even", NONE, NONE, NONE, NONE, NONE);
        rings("owe 0 1 9", NONE, NONE, NONE, NONE, NONE);
        rings("owe 0 1 9;owe 1 0 1", 2, 2, NONE, NONE, NONE);
        rings("owe 0 1 9;owe 1 2 1;owe 2 0 1", 3, 3, 3, NONE, NONE);
        rings("owe 0 1 9;owe 1 2 1;owe 2 3 1;owe 3 0 1", 4, 4, 4, 4, NONE);
        rings("owe 0 1 9;owe 1 2 1;owe 2 3 1;owe 3 4 1;owe 4 0 1", 5, 5, 5, 5, 5);
        rings("owe 0 1 9;owe 1 2 1;owe 2 3 1;owe 3 4 1;owe 4 0 1;owe 3 1 1", 5, 3, 3, 3, 5);
        rings("owe 0 1 9;owe 1 2 1;owe 2 1 1;owe 2 3 1", NONE, 2, 2, NONE, NONE);
        rings("owe 0 1 9;owe 1 0 1;owe 1 0 0", NONE, NONE, NONE, NONE, NONE);
        rings("owe 0 1 9;owe 0 2 9;owe 1 3 9;owe 2 3 9", NONE, NONE, NONE, NONE, NONE);
    }

    private static int poorOf(String text) {
        return Checks.told(text).poor();
    }

    private static void poorByOne() {
        edges.due("nobody", new ForKeeps().poor(), 0);
        edges.due("all even", poorOf("bank 0;bank 0"), 0);
        edges.due("as much as he has", poorOf("bank 5;bank 5;owe 0 1 5"), 0);
        edges.due("one more", poorOf("bank 5;bank 5;owe 0 1 6"), 1);
        edges.due("one with nothing", poorOf("bank 0;bank 0;owe 1 0 1"), 2);
        edges.due("less what he is owed", poorOf("bank 5;bank 5;owe 0 1 50;owe 1 0 45"), 0);
        edges.due("less what he is owed, one more", poorOf("bank 5;bank 5;owe 0 1 50;owe 1 0 44"), 1);
        edges.due("the fifth", poorOf("bank 5;bank 5;bank 5;bank 5;bank 5;owe 4 0 6"), 16);
        edges.due("four of five", poorOf("bank 0;bank 0;bank 0;bank 0;bank 0;owe 0 4 1;owe 1 4 1;owe 2 4 1;owe 3 4 1"),
            15);
        ForKeeps x = Checks.told("bank 5;bank 0;owe 0 1 5");
        x.shoot(0, 9, 0);
        edges.due("by the purse that he has now", x.poor(), 1);
    }

    // ---- refusals

    private static void unknown() {
        ForKeeps x = played();
        for (int cell : Edges.beside(0, 4)) {
            edges.due("cell " + cell, x.cell(cell, 0), UNKNOWN);
            edges.due("slopes of cell " + cell, x.slopes(cell), UNKNOWN);
        }
        for (int p : Edges.beside(0, 3)) {
            edges.due("player " + p, x.player(p, 0), UNKNOWN);
            edges.due("debt of " + p, x.debt(p, 0), UNKNOWN);
            edges.due("debt to " + p, x.debt(0, p), UNKNOWN);
            edges.due("as, of " + p, x.as(p, 0), UNKNOWN);
            edges.due("odds of " + p, x.odds(p, 1, 0), UNKNOWN);
            edges.due("mean of " + p, x.mean(p, 1), UNKNOWN);
            edges.due("best of " + p, x.best(p, 0), UNKNOWN);
            edges.due("ring of " + p, x.ring(p), UNKNOWN);
            edges.due("a shot of " + p, x.shoot(p, 1, 0), UNKNOWN);
            edges.due("a payment of " + p, x.pay(p, 0, 1), UNKNOWN);
            edges.due("a payment to " + p, x.pay(0, p, 1), UNKNOWN);
        }
        for (int p = 0; p < 4; p++) {
            edges.due("debt of one and himself", x.debt(p, p), UNKNOWN);
            edges.due("a payment to himself", x.pay(p, p, 1), UNKNOWN);
        }
    }

    private static void firstThatFits() {
        ForKeeps x = Checks.told("patch 4;steady 0;bank 1;owe 1 0 1");
        edges.due("cell: UNKNOWN, OUTSIDE", x.cell(4, 2), UNKNOWN);
        edges.due("player: UNKNOWN, OUTSIDE", x.player(2, 4), UNKNOWN);
        edges.due("as: UNKNOWN, OUTSIDE", x.as(2, 5), UNKNOWN);
        edges.due("as: OUTSIDE, NOT", x.as(1, 5), OUTSIDE);
        edges.due("shoot: UNKNOWN, OUTSIDE", x.shoot(2, 10, 0), UNKNOWN);
        edges.due("shoot: OUTSIDE by force, NOT", x.shoot(0, 10, 0), OUTSIDE);
        edges.due("shoot: OUTSIDE by z, NOT", x.shoot(0, 1, 10000), OUTSIDE);
        edges.due("pay: UNKNOWN, OUTSIDE", x.pay(1, 1, 0), UNKNOWN);
        edges.due("pay: UNKNOWN, NOT", x.pay(0, 0, 1), UNKNOWN);
        edges.due("pay: OUTSIDE, NOT", x.pay(0, 1, 0), OUTSIDE);
        edges.due("pay: OUTSIDE above, NOT", x.pay(1, 0, 100), OUTSIDE);
        edges.due("back: UNKNOWN, NOT", x.back(2), UNKNOWN);
        edges.due("odds: UNKNOWN, OUTSIDE", x.odds(2, 10, 2), UNKNOWN);
        edges.due("mean: UNKNOWN, OUTSIDE", x.mean(2, 10), UNKNOWN);
        edges.due("best: UNKNOWN, OUTSIDE", x.best(2, 2), UNKNOWN);
        ForKeeps y = seenOften(6);
        edges.due("seen: OUTSIDE by force, FULL", y.seen(10, 0), OUTSIDE);
        edges.due("seen: OUTSIDE by stop, FULL", y.seen(1, 5), OUTSIDE);
        Checks.type(y, " ".repeat(160));
        edges.due("write: OUTSIDE, FULL", y.write(256), OUTSIDE);
        edges.due("write: FULL", y.write(255), FULL);
        edges.due("patch: NOT of a full text", y.patch(), NOT);
    }

    private static void lowestTerms() {
        odds(Checks.told("steady 9"), 0, 9, 0, 1);
        odds(Checks.told("lay 0 1;steady 9"), 0, 9, 1, 1);
        odds(Checks.told("lay 0 1;shaky 9"), 0, 1, 3, 4);
        ruin(2, 8, 5, 1, 4);
        ruin(4, 8, 5, 1, 2);
        ruin(6, 8, 5, 3, 4);
        ruin(3, 8, 4, 608, 6305);
        ruin(0, 8, 4, 0, 1);
        ruin(8, 8, 4, 1, 1);
        rain(1, 1, 4, 2, 5);
        rain(3, 2, 5, 1, 2);
        rain(6, 3, 5, 21, 32);
        rain(6, 6, 0, 0, 1);
        rain(6, 6, 10, 1, 1);
        rain(0, 1, 10, 0, 1);
    }

    private static void withMore() {
        ForKeeps x = Checks.told("shaky 0;steady 0;bank 0");
        edges.due("least of a mean", x.mean(1, 1), 9995);
        edges.due("a mean of 0", x.mean(1, 0), 9999);
        edges.due("most of a mean", Checks.told("lay 0 20;steady 0").mean(0, 1), 10079);
        edges.due("a best below 0", x.best(0, 1), 9998);
        edges.due("a best of 0", x.best(2, 1), 9999);
        edges.due("a force is told as it is", x.best(2, 0), 0);
    }

    private static void lastCall() {
        ForKeeps x = Checks.told("steady 9");
        int calls = "steady 9".length() + 1;
        for (; calls < 510; calls++) {
            x.shoot(0, calls % 2, calls);
        }
        edges.due("shots as the 511th", x.count(2), 501);
        edges.due("undo as the 512th", x.undo(), 7);
    }
}
