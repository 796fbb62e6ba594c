import java.io.IOException;
import java.lang.reflect.Field;

/** The document's 'Terms', its part 2: how a marble rolls, what a shot and a payment do. */
public final class EdgesOfShotsTest {
    private static final int NONE = -1, UNKNOWN = -2, OUTSIDE = -3, NOT = -4, FULL = -5;
    /** By these numbers the draw of the first shot is 0, 1, 2 and 3. */
    private static final int DRAW_0 = 5, DRAW_1 = 0, DRAW_2 = 3, DRAW_3 = 1;
    private static Edges edges;

    public static void main(String[] args) throws IOException {
        edges = new Edges("EdgesOfShotsTest");
        rolls();
        shots();
        payments();
        edges.end();
    }

    private static void rolls() {
        edges.of("as long as it is above 0, it goes on to the next CELL (CELL 0 first)", EdgesOfShotsTest::aboveZero);
        edges.of("behind the last one is THE GUTTER: there it stops", EdgesOfShotsTest::gutterBehindTheLast);
        edges.of("FORCE is 1 less for each CELL", EdgesOfShotsTest::oneLessForEach);
        edges.of("and more by its SLOPE (2 down: 2 more; 1 down: 1 more; 1 up: 1 less; 2 up: 2 less)",
            EdgesOfShotsTest::moreBySlope);
        edges.of("where a MARBLE lies it HITS that, and stops", EdgesOfShotsTest::hitsTheFirst);
        edges.of("It STOPS on a CELL, in THE GUTTER (n), or, by a FORCE of 0, where it was (none).",
            EdgesOfShotsTest::threeStops);
    }

    private static void shots() {
        edges.of("A SHOT of a PLAYER who has 1 at least", EdgesOfShotsTest::hasOneAtLeast);
        edges.of("by a FORCE (0 .. 9) and a number z (0 .. 9999)", EdgesOfShotsTest::forcesAndNumbers);
        edges.of("of a SHAKY one FORCE is 1 less (0 at least), if DRAW is 0, 1 more, if it is 3",
            EdgesOfShotsTest::shakyByDraw);
        edges.of("DRAW being (x times x) modulo 65521 modulo 4, x 7919 z, 6151 times how many SHOTS there were and 1"
            + " together.", EdgesOfShotsTest::drawsOfShots);
        edges.of("what would go to THE GUTTER of a LUCKY one STOPS on the last CELL (no MARBLE lies there then)",
            EdgesOfShotsTest::luckyOnTheLast);
        edges.of("that MARBLE is his, he has its WORTH more (a BANK half of it, cut), none lies there any more",
            EdgesOfShotsTest::hitIsHis);
        edges.of("Else, if it STOPS on a CELL, it lies there, of WORTH 1, he has 1 less", EdgesOfShotsTest::liesThere);
        edges.of("in THE GUTTER he has 1 less", EdgesOfShotsTest::lostInTheGutter);
        edges.of("where it was nothing changes", EdgesOfShotsTest::nothingByZero);
    }

    private static void payments() {
        edges.of("A PLAYER PAYS another one n of what he owes him, no more than that, and than his PURSE.",
            EdgesOfShotsTest::noMoreThanOwedOrHad);
        edges.of("THE PURSE is 999 at most.", EdgesOfShotsTest::purseAtMost);
        edges.of("KINDS of PLAYERS are over one another: PLAYER (0); STEADY (1) under it; SHAKY (2) is STEADY; LUCKY (3)"
            + " is STEADY; BANK (4) is a PLAYER.", EdgesOfShotsTest::kindsOverOneAnother);
        edges.of("FULL: there were 999 SHOTS.", EdgesOfShotsTest::shotsAtMost);
    }

    // ---- rolls

    private static void stops(String text, int... due) {
        ForKeeps x = Checks.told(text);
        for (int force = 0; force < due.length; force++) {
            edges.due("'" + text + "' by " + force, x.stop(force, 0), due[force]);
        }
    }

    private static void aboveZero() {
        stops("patch 9", NONE, 0, 1, 2, 3, 4, 5, 6, 7, 8);
        // 1 is left behind cell 0: it goes on; 0 is left: it does not; less than 0: nor then
        stops("slope 0 3", NONE, 0, 0, 1, 2);
        stops("slope 0 4", NONE, 0, 0, 0, 1);
    }

    private static void gutterBehindTheLast() {
        for (int n = 4; n <= 9; n++) {
            ForKeeps x = Checks.told("patch " + n);
            edges.due("the last of " + n, x.stop(n, 0), n - 1);
            if (n < 9) {
                edges.due("the gutter of " + n, x.stop(n + 1, 0), n);
                edges.due("the gutter of " + n + " by 9", x.stop(9, 0), n);
            }
        }
        stops("patch 4;slope 3 1", NONE, 0, 1, 2, 4, 4);
        stops("patch 4;slope 3 3", NONE, 0, 1, 2, 3, 3, 4);
        stops("patch 9;slope 8 1", NONE, 0, 1, 2, 3, 4, 5, 6, 7, 9);
        stops("patch 4;slope 0 0;slope 1 0;slope 2 0;slope 3 0", NONE, 4, 4, 4, 4, 4, 4, 4, 4, 4);
    }

    private static void oneLessForEach() {
        stops("patch 4", NONE, 0, 1, 2, 3, 4, 4, 4, 4, 4);
        // for the cell that it came over, not for the one it goes to
        stops("patch 4;slope 1 4", NONE, 0, 1, 1, 1, 2, 3, 4);
    }

    private static void moreBySlope() {
        stops("patch 9;slope 0 0", NONE, 2, 3, 4, 5, 6, 7, 8, 9, 9);
        stops("patch 9;slope 0 1", NONE, 1, 2, 3, 4, 5, 6, 7, 8, 9);
        stops("patch 9;slope 0 2", NONE, 0, 1, 2, 3, 4, 5, 6, 7, 8);
        stops("patch 9;slope 0 3", NONE, 0, 0, 1, 2, 3, 4, 5, 6, 7);
        stops("patch 9;slope 0 4", NONE, 0, 0, 0, 1, 2, 3, 4, 5, 6);
        stops("patch 9;slope 7 4;slope 8 0", NONE, 0, 1, 2, 3, 4, 5, 6, 7, 7);
    }

    private static void hitsTheFirst() {
        ForKeeps x = Checks.told("lay 2 5;lay 3 6;slope 2 0");
        edges.due("short of it", x.stop(2, 0), 1);
        edges.due("short of it, no hit", x.stop(2, 1), 0);
        edges.due("just there", x.stop(3, 0), 2);
        edges.due("just there, a hit", x.stop(3, 1), 5);
        edges.due("with force left", x.stop(9, 0), 2);
        edges.due("with force left, the first", x.stop(9, 1), 5);
        ForKeeps y = Checks.told("lay 0 1;lay 5 20");
        edges.due("on the first cell", y.stop(1, 1), 1);
        edges.due("on the first cell, by 9", y.stop(9, 0), 0);
        edges.due("by 0 not even that", y.stop(0, 1), 0);
        ForKeeps z = Checks.told("lay 5 20");
        edges.due("on the last cell", z.stop(6, 1), 20);
        edges.due("on the last cell, not in the gutter", z.stop(9, 0), 5);
        edges.due("short of the last cell", z.stop(5, 1), 0);
    }

    private static void threeStops() {
        for (String kind : new String[] {"steady", "bank"}) {
            edges.due(kind + " on the first", Checks.told("patch 4;" + kind + " 1").shoot(0, 1, 0), 0);
            edges.due(kind + " on the last", Checks.told("patch 4;" + kind + " 1").shoot(0, 4, 0), 3);
            edges.due(kind + " in the gutter", Checks.told("patch 4;" + kind + " 1").shoot(0, 5, 0), 4);
            edges.due(kind + " where it was", Checks.told("patch 4;" + kind + " 1").shoot(0, 0, 0), NONE);
        }
        edges.due("the gutter of nine", Checks.told("patch 9;slope 0 1;bank 1").shoot(0, 9, 0), 9);
    }

    // ---- shots

    private static void hasOneAtLeast() {
        for (String kind : new String[] {"steady", "shaky", "lucky", "bank"}) {
            edges.due(kind + " with 1", Checks.told(kind + " 1").shoot(0, 2, DRAW_1), 1);
            edges.refused(kind + " with nothing", () -> Checks.told(kind + " 0"), x -> x.shoot(0, 2, 0), NOT);
            edges.refused(kind + " with nothing, by 0", () -> Checks.told(kind + " 0"), x -> x.shoot(0, 0, 0), NOT);
        }
        ForKeeps x = Checks.told("steady 2");
        x.shoot(0, 9, 0);
        edges.due("with 1 left", x.shoot(0, 9, 0), 6);
        edges.due("with nothing left", x.shoot(0, 9, 0), NOT);
    }

    private static void forcesAndNumbers() {
        ForKeeps x = Checks.told("patch 9;steady 99");
        for (int force = 0; force <= 9; force++) {
            edges.due("by " + force, x.shoot(0, force, 0), force - 1);
            x.undo();
        }
        for (int force : Edges.beside(0, 9)) {
            edges.refused("by " + force, () -> Checks.told("steady 9"), y -> y.shoot(0, force, 0), OUTSIDE);
        }
        edges.due("z 0", x.shoot(0, 1, 0), 0);
        edges.due("z 9999", x.shoot(0, 1, 9999), 0);
        for (int z : Edges.beside(0, 9999)) {
            edges.refused("z " + z, () -> Checks.told("steady 9"), y -> y.shoot(0, 1, z), OUTSIDE);
        }
    }

    private static int first(String kind, int force, int z) {
        return Checks.told("patch 9;" + kind + " 9").shoot(0, force, z);
    }

    private static void shakyByDraw() {
        edges.due("draw 0", first("shaky", 3, DRAW_0), 1);
        edges.due("draw 1", first("shaky", 3, DRAW_1), 2);
        edges.due("draw 2", first("shaky", 3, DRAW_2), 2);
        edges.due("draw 3", first("shaky", 3, DRAW_3), 3);
        edges.due("draw 0 by 0: no less", first("shaky", 0, DRAW_0), NONE);
        edges.due("draw 0 by 1", first("shaky", 1, DRAW_0), NONE);
        edges.due("draw 0 by 9", first("shaky", 9, DRAW_0), 7);
        edges.due("draw 3 by 0", first("shaky", 0, DRAW_3), 0);
        edges.due("draw 3 by 9", first("shaky", 9, DRAW_3), 9);
        for (String kind : new String[] {"steady", "lucky", "bank"}) {
            for (int z : new int[] {DRAW_0, DRAW_1, DRAW_2, DRAW_3}) {
                edges.due(kind + " is not shaken by " + z, first(kind, 3, z), 2);
            }
        }
        ForKeeps x = Checks.told("shaky 9");
        x.shoot(0, 1, DRAW_0);
        edges.due("where it was by a draw: purse", x.player(0, 1), 9);
        ForKeeps y = Checks.told("shaky 9");
        y.shoot(0, 0, DRAW_3);
        edges.due("it lies by a draw: purse", y.player(0, 1), 8);
        edges.due("it lies by a draw: worth", y.cell(0, 1), 1);
    }

    /** Stops of a force of 9 on 9 cells, by draws that were reckoned apart from the class. */
    private static void drawsOfShots() {
        int[][] draws = {
            {1, 3, 1, 2, 3, 0, 0, 1, 1, 1}, {3, 0, 0, 1, 1, 1, 1, 0, 3, 2}, {3, 3, 3, 3, 2, 1, 0, 3, 1, 3},
            {3, 2, 1, 0, 2, 0, 2, 0, 2, 3},
        };
        int[] stopOf = {7, 8, 8, 9};
        for (int shots = 0; shots < draws.length; shots++) {
            for (int z = 0; z < draws[shots].length; z++) {
                edges.due("z " + z + " behind " + shots + " shots", shakyBehind(shots, z), stopOf[draws[shots][z]]);
            }
        }
        int[] last = {0, 2, 0, 1, 3, 0, 1, 2, 2, 3};
        for (int i = 0; i < 10; i++) {
            edges.due("z " + (9990 + i), shakyBehind(0, 9990 + i), stopOf[last[i]]);
        }
        edges.due("z 9999 behind 1 shot", shakyBehind(1, 9999), 7);
    }

    private static int shakyBehind(int shots, int z) {
        ForKeeps x = Checks.told("patch 9;shaky 9;steady 9");
        for (int i = 0; i < shots; i++) {
            x.shoot(1, 0, 7);
        }
        return x.shoot(0, 9, z);
    }

    private static void luckyOnTheLast() {
        for (int n = 4; n <= 8; n++) {
            ForKeeps x = Checks.told("patch " + n + ";lucky 9");
            edges.due("just beyond the last of " + n, x.shoot(0, n + 1, 0), n - 1);
            edges.due("it lies there", x.cell(n - 1, 1), 1);
            edges.due("he has 1 less", x.player(0, 1), 8);
            edges.due("the next one hits that", x.shoot(0, 9, 0), n - 1);
            edges.due("it lies no more", x.cell(n - 1, 1), 0);
            edges.due("he has it again", x.player(0, 1), 9);
        }
        edges.due("on the last itself", Checks.told("lucky 9").shoot(0, 6, 0), 5);
        edges.due("on the one before", Checks.told("lucky 9").shoot(0, 5, 0), 4);
        edges.due("where it was", Checks.told("lucky 9").shoot(0, 0, 0), NONE);
        edges.due("nine cells", Checks.told("patch 9;slope 0 0;lucky 9").shoot(0, 9, 0), 8);
        edges.due("of nobody's kind", Checks.told("lucky 9").stop(9, 0), 6);
    }

    private static void hitIsHis() {
        int[] worths = {1, 2, 3, 9, 19, 20};
        int[] halves = {0, 1, 1, 4, 9, 10};
        for (int i = 0; i < worths.length; i++) {
            for (String kind : new String[] {"steady", "shaky", "lucky", "bank"}) {
                ForKeeps x = Checks.told("patch 4;lay 1 " + worths[i] + ";lay 2 7;" + kind + " 5");
                edges.due(kind + " hits", x.shoot(0, 9, 0), 1);
                edges.due(kind + " has more by " + worths[i], x.player(0, 1),
                    5 + (kind.equals("bank") ? halves[i] : worths[i]));
                edges.due("none lies there any more", x.cell(1, 1), 0);
                edges.due("the other one lies yet", x.count(3), 4);
            }
        }
        ForKeeps y = Checks.told("lay 0 20;steady 99");
        y.shoot(0, 1, 0);
        edges.due("more than a text may tell", y.player(0, 1), 119);
    }

    private static void liesThere() {
        for (int force = 1; force <= 6; force++) {
            ForKeeps x = Checks.told("steady 1;bank 3");
            x.shoot(0, force, 0);
            edges.due("marbles by " + force, x.count(3), 1 << (force - 1));
            edges.due("worth by " + force, x.cell(force - 1, 1), 1);
            edges.due("purse by " + force, x.player(0, 1), 0);
            edges.due("the other's purse by " + force, x.player(1, 1), 3);
        }
    }

    private static void lostInTheGutter() {
        for (String kind : new String[] {"steady", "shaky", "bank"}) {
            ForKeeps x = Checks.told("patch 4;" + kind + " 1");
            edges.due(kind + " stops", x.shoot(0, 9, 0), 4);
            edges.due(kind + " has 1 less", x.player(0, 1), 0);
            edges.due("nothing lies", x.count(3), 0);
        }
    }

    private static void nothingByZero() {
        ForKeeps x = Checks.told("lay 0 5;lay 5 6;shaky 4;steady 1;lucky 2;bank 3");
        for (int p = 0; p < 4; p++) {
            edges.due("player " + p, x.shoot(p, 0, 0), NONE);
        }
        edges.due("marbles", x.count(3), 33);
        edges.due("worths", x.count(4), 11);
        edges.due("purses", x.count(5), 10);
        edges.due("a shot all the same", x.count(2), 4);
        edges.due("it can be undone all the same", x.count(8), 4);
    }

    // ---- payments and ends

    private static void noMoreThanOwedOrHad() {
        String text = "steady 10;bank 3;owe 0 1 8;owe 1 0 9";
        edges.due("all that he owes", Checks.told(text).pay(0, 1, 8), 0);
        edges.refused("more than he owes", () -> Checks.told(text), x -> x.pay(0, 1, 9), NOT);
        edges.due("all that he has", Checks.told(text).pay(1, 0, 3), 6);
        edges.refused("more than he has", () -> Checks.told(text), x -> x.pay(1, 0, 4), NOT);
        edges.refused("he owes him nothing", () -> Checks.told("bank 9;bank 9;owe 1 0 5"), x -> x.pay(0, 1, 1), NOT);
        edges.refused("he has nothing", () -> Checks.told("bank 0;bank 9;owe 0 1 5"), x -> x.pay(0, 1, 1), NOT);
        ForKeeps x = Checks.told(text);
        x.pay(0, 1, 8);
        edges.due("who paid", x.player(0, 1), 2);
        edges.due("who was paid: no bank's half", x.player(1, 1), 11);
        edges.due("what is owed the other way", x.debt(1, 0), 9);
        ForKeeps y = Checks.told("steady 99;steady 99;owe 0 1 99");
        edges.due("99 of 99", y.pay(0, 1, 99), 0);
        edges.due("more than a text may tell", y.player(1, 1), 198);
    }

    /** No run of calls comes so far: five purses of 99 and nine marbles of 20 are 675. So they are put by hand. */
    private static void purseAtMost() {
        edges.due("995 and 4", purseBehindHit("steady", 995, 4), 999);
        edges.due("995 and 5", purseBehindHit("steady", 995, 5), 999);
        edges.due("998 and 1", purseBehindHit("steady", 998, 1), 999);
        edges.due("999 and 1", purseBehindHit("lucky", 999, 1), 999);
        edges.due("999 and 20", purseBehindHit("steady", 999, 20), 999);
        edges.due("a bank, 990 and 10", purseBehindHit("bank", 990, 20), 999);
        edges.due("a bank, 990 and 9", purseBehindHit("bank", 990, 18), 999);
        edges.due("a bank, 990 and 8", purseBehindHit("bank", 990, 17), 998);
        ForKeeps x = Checks.told("steady 9;bank 9;owe 0 1 9");
        putPurse(x, 1, 995);
        edges.due("paid", x.pay(0, 1, 9), 0);
        edges.due("purse of who was paid", x.player(1, 1), 999);
        edges.due("purse of who paid", x.player(0, 1), 0);
        x.undo();
        edges.due("undone", x.player(1, 1), 995);
    }

    private static int purseBehindHit(String kind, int purse, int worth) {
        ForKeeps x = Checks.told("lay 0 " + worth + ";" + kind + " 1");
        putPurse(x, 0, purse);
        x.shoot(0, 1, 0);
        return x.player(0, 1);
    }

    private static void putPurse(ForKeeps x, int player, int purse) {
        try {
            Field now = ForKeeps.class.getDeclaredField("now");
            now.setAccessible(true);
            Field purses = now.getType().getDeclaredField("purse");
            purses.setAccessible(true);
            ((int[]) purses.get(now.get(x)))[player] = purse;
        } catch (ReflectiveOperationException e) {
            throw new IllegalStateException("the class holds its purses otherwise now: mend putPurse", e);
        }
    }

    private static void kindsOverOneAnother() {
        ForKeeps x = Checks.told("steady 0;shaky 0;lucky 0;bank 0");
        int[][] due = {
            {9, 9, NOT, NOT, NOT}, {9, 9, 9, NOT, NOT}, {9, 9, NOT, 9, NOT}, {4, NOT, NOT, NOT, 4},
        };
        for (int p = 0; p < 4; p++) {
            for (int kind = 0; kind < 5; kind++) {
                edges.due("player " + p + " as " + kind, x.as(p, kind), due[p][kind]);
            }
        }
    }

    /** 999 shots are more than the 512 calls that are promised; the class keeps its word beyond them too. */
    private static ForKeeps shotOften(int shots) {
        ForKeeps x = Checks.told("patch 4;steady 9;bank 0");
        for (int i = 0; i < shots; i++) {
            x.shoot(0, 0, 0);
        }
        return x;
    }

    private static void shotsAtMost() {
        edges.due("the 999th", shotOften(998).shoot(0, 1, 0), 0);
        edges.refused("the 1000th", () -> shotOften(999), x -> x.shoot(0, 1, 0), FULL);
        edges.refused("the 1000th by 0", () -> shotOften(999), x -> x.shoot(0, 0, 0), FULL);
        edges.refused("NOT comes first", () -> shotOften(999), x -> x.shoot(1, 1, 0), NOT);
        edges.refused("OUTSIDE comes first", () -> shotOften(999), x -> x.shoot(0, 10, 0), OUTSIDE);
        edges.refused("UNKNOWN comes first", () -> shotOften(999), x -> x.shoot(2, 1, 0), UNKNOWN);
        ForKeeps x = shotOften(999);
        edges.due("shots", x.count(2), 999);
        edges.due("kept", x.keep(1), 999);
        x.undo();
        edges.due("one is undone", x.count(2), 998);
        edges.due("so there is one more", x.shoot(0, 4, 0), 3);
        edges.due("and then none", x.shoot(0, 4, 0), FULL);
    }
}
