/** Each promise by itself: ordinary calls, the edges that the document names, wrong arguments. */
public final class PromiseTest {
    private static final int NONE = -1, UNKNOWN = -2, OUTSIDE = -3, NOT = -4, FULL = -5;
    private static final Checks CHECKS = new Checks("PromiseTest");

    public static void main(String[] args) {
        constants();
        promise1New();
        promise2Write();
        promise3Erase();
        promise4FaultAtTokens();
        promise4FaultOfNumbers();
        promise4FaultOfPlayers();
        promise4FaultOfClauses();
        promise5Patch();
        promise5PatchTellsAnew();
        promise6Cell();
        promise7Player();
        promise8Debt();
        promise9As();
        promise10Shoot();
        promise10ShootByKind();
        promise10ShootRefused();
        promise11Pay();
        promise11RichestPurse();
        promise12Undo();
        promise13Keep();
        promise14Back();
        promise15Stop();
        promise16Odds();
        promise17Mean();
        promise18Best();
        promise19Two();
        promise20Seen();
        promise21Forget();
        promise22Slopes();
        promise23Ruin();
        promise24Netted();
        promise25Ring();
        promise26Poor();
        promise27Rain();
        promise28Count();
        CHECKS.end();
    }

    private static void due(String call, long got, long want) {
        CHECKS.due(call, got, want);
    }

    private static void constants() {
        due("NONE", ForKeeps.NONE, -1);
        due("UNKNOWN", ForKeeps.UNKNOWN, -2);
        due("OUTSIDE", ForKeeps.OUTSIDE, -3);
        due("NOT", ForKeeps.NOT, -4);
        due("FULL", ForKeeps.FULL, -5);
    }

    private static void promise1New() {
        ForKeeps x = new ForKeeps();
        due("new: cells", x.count(0), 6);
        for (int c = 0; c < 6; c++) {
            due("new: slope of " + c, x.cell(c, 0), 2);
            due("new: nothing lies on " + c, x.cell(c, 1), 0);
        }
        for (int what = 1; what < 10; what++) {
            due("new: count(" + what + ")", x.count(what), 0);
        }
        due("new: no player", x.player(0, 0), UNKNOWN);
        due("new: nothing kept in 0", x.back(0), NOT);
        due("new: nothing kept in 1", x.back(1), NOT);
        due("new: nothing to undo", x.undo(), NOT);
    }

    private static void promise2Write() {
        ForKeeps x = new ForKeeps();
        due("write(-1)", x.write(-1), OUTSIDE);
        due("write(256)", x.write(256), OUTSIDE);
        due("write(0)", x.write(0), 1);
        due("write(255)", x.write(255), 2);
        for (int i = 3; i <= 160; i++) {
            due("write as letter " + i, x.write('a'), i);
        }
        due("write as letter 161", x.write('a'), FULL);
        due("write(256) on a full text", x.write(256), OUTSIDE);
        due("letters of a full text", x.count(9), 160);
    }

    private static void promise3Erase() {
        ForKeeps x = new ForKeeps();
        due("erase nothing", x.erase(), 0);
        Checks.type(x, "patch 4");
        due("erase", x.erase(), 7);
        due("letters after erase", x.count(9), 0);
        due("erase again", x.erase(), 0);
        due("write after erase", x.write('e'), 1);
        x.erase();
        Checks.type(x, "patch 5");
        x.patch();
        due("erase after patch", x.erase(), 0);
        due("what was told stays", x.count(0), 5);
    }

    private static void fault(String text, int want) {
        faultAfter(new ForKeeps(), text, want);
    }

    private static void faultAfter(ForKeeps x, String text, int want) {
        Checks.type(x, text);
        due("fault of '" + text + "'", x.fault(), want);
        due("length behind fault of '" + text + "'", x.erase(), text.length());
    }

    private static void promise4FaultAtTokens() {
        fault("", 0);
        fault("   ", 3);
        fault("even", NONE);
        fault("  even  ", NONE);
        fault("even;even", NONE);
        fault("even ; even", NONE);
        fault("even;", 5);
        fault("even; ", 6);
        fault(";even", 0);
        fault("even;;even", 5);
        fault("even even", 5);
        fault("even 1", 5);
        fault("evenx", 0);
        fault("eve", 0);
        fault("oven", 0);
        fault("evenz", 0);
        fault("aeven", 0);
        fault("Even", 0);
        fault("  evEn", 2);
        fault("even.", 4);
        fault("even\t", 4);
        fault("\teven", 0);
        fault("even,even", 4);
        fault("4", 0);
        fault("patch", 5);
        fault("patch ", 6);
        fault("patch;", 5);
        fault("patch x", 6);
        fault("patch 4 5", 8);
        fault("patch 4even", 7);
        fault("patch4", NONE);
        fault("slope 1", 7);
        fault("slope 1;", 7);
        fault("slope 1 2 3", 10);
        fault("slope 1 x", 8);
        fault("slope 12", 6);
        fault("lay 1", 5);
        fault("steady", 6);
        fault("steady 1 1", 9);
        fault("lay 0 1;slope 0 0;gate", 18);
        fault("even" + (char) 233, 4);
        fault("even" + (char) 0, 4);
    }

    private static void promise4FaultOfNumbers() {
        fault("patch 3", 6);
        fault("patch 4", NONE);
        fault("patch 9", NONE);
        fault("patch 10", 6);
        fault("patch 04", NONE);
        fault("patch 004", 6);
        fault("patch 400000000000000", 6);
        fault("patch -4", 6);
        fault("slope 5 0", NONE);
        fault("slope 6 0", 6);
        fault("slope 05 04", NONE);
        fault("slope 0 5", 8);
        fault("slope 0 4", NONE);
        fault("slope 0 004", 8);
        fault("lay 5 1", NONE);
        fault("lay 6 1", 4);
        fault("lay 5 0", 6);
        fault("lay 5 20", NONE);
        fault("lay 5 21", 6);
        fault("patch 9;slope 8 0;lay 8 1", NONE);
        fault("patch 9;slope 9 0", 14);
        fault("patch 4;slope 4 0", 14);
        fault("patch 4;lay 3 1;lay 4 1", 20);
        fault("steady 0;shaky 99;lucky 9;bank 09", NONE);
        fault("steady 100", 7);
        fault("shaky 099", 6);
        ForKeeps x = Checks.told("patch 4");
        faultAfter(x, "slope 4 0", 6);
        faultAfter(x, "slope 3 0", NONE);
    }

    private static void promise4FaultOfPlayers() {
        fault("owe 0 1 5", 4);
        fault("bank 1;owe 0 1 5", 13);
        fault("bank 1;owe 1 0 5", 11);
        fault("bank 1;owe 0 0 5", 13);
        fault("bank 1;bank 1;owe 0 1 99", NONE);
        fault("bank 1;bank 1;owe 0 1 0", NONE);
        fault("bank 1;bank 1;owe 0 1", 21);
        fault("bank 1;bank 1;owe 0 1 100", 22);
        fault("bank 1;bank 1;owe 1 1 5", 20);
        fault("bank 1;bank 1;owe 1 01 5", 20);
        fault("bank 1;bank 1;owe 0 2 5", 20);
        fault("bank 1;bank 1;patch 4;owe 0 1 5", 26);
        fault("bank 1;shaky 1;steady 1;lucky 1;bank 1", NONE);
        fault("bank 1;shaky 1;steady 1;lucky 1;bank 1;bank 1", 39);
        fault("bank 1;shaky 1;steady 1;lucky 1;bank 1;  shaky x", 41);
        fault("bank 1;shaky 1;steady 1;lucky 1;bank 1;patch 4;lucky 1", NONE);
        ForKeeps x = Checks.told("bank 1;bank 1;bank 1;bank 1");
        faultAfter(x, "lucky 1;lucky 1", 8);
        faultAfter(x, "lucky 1;owe 4 0 1", NONE);
        faultAfter(x, "owe 4 0 1", 4);
        faultAfter(x, "owe 3 0 1", NONE);
    }

    private static void promise4FaultOfClauses() {
        fault("even" + ";even".repeat(13), NONE);
        fault("even" + ";even".repeat(14), 4 + 13 * 5);
        fault("even" + ";even".repeat(13) + ";", 4 + 13 * 5);
        fault("even" + ";even".repeat(12) + ";", 4 + 12 * 5 + 1);
        fault("even" + ";even".repeat(13) + " x", 4 + 13 * 5 + 1);
    }

    private static void promise5Patch() {
        ForKeeps x = new ForKeeps();
        due("patch of an empty text", x.patch(), NOT);
        Checks.type(x, "patch 5;slope 1 4;slope 2 0;slope 1 3;lay 4 20;lay 3 2;lay 3 1;bank 7;owe 0 0 1");
        due("patch with a fault", x.patch(), NOT);
        due("letters stay behind a fault", x.count(9), 79);
        due("nothing is done behind a fault", x.count(0), 6);
        x.erase();
        Checks.type(x, "patch 5;slope 1 4;slope 2 0;slope 1 3;lay 4 20;lay 3 2;lay 3 1;bank 7;shaky 8;owe 0 1 9");
        due("patch", x.patch(), 10);
        due("letters behind patch", x.count(9), 0);
        due("cells", x.count(0), 5);
        due("slope told twice", x.cell(1, 0), 3);
        due("slope told once", x.cell(2, 0), 0);
        due("slope not told", x.cell(0, 0), 2);
        due("worth told twice", x.cell(3, 1), 1);
        due("worth told once", x.cell(4, 1), 20);
        due("kind", x.player(1, 0), 1);
        due("debt", x.debt(0, 1), 9);
        Checks.tell(x, "owe 0 1 4;owe 1 0 3");
        due("debt in place of what it was", x.debt(0, 1), 4);
        Checks.tell(x, "even");
        due("even", x.count(6), 0);
        due("marbles stay told", x.count(3), 24);
        Checks.tell(x, "owe 0 1 4;owe 1 0 3");
        Checks.tell(x, "patch 6");
        due("patch N: debts", x.count(6), 0);
        due("patch N: cells", x.count(0), 6);
        due("patch N: slopes", x.cell(1, 0), 2);
        due("patch N: marbles", x.count(3), 0);
        due("patch N: players", x.count(1), 0);
        due("patch N: purses", x.count(5), 0);
        Checks.tell(x, "bank 1;bank 2;steady 3");
        due("debts of those who come then", x.count(6), 0);
        due("purses of those who come then", x.count(5), 6);
        due("patch of 14", patchOf("even" + ";even".repeat(13)), 14);
    }

    private static int patchOf(String text) {
        ForKeeps x = new ForKeeps();
        Checks.type(x, text);
        return x.patch();
    }

    private static void promise5PatchTellsAnew() {
        ForKeeps x = Checks.told("lay 2 9;steady 10;bank 20;owe 0 1 8");
        x.shoot(0, 3, 0);
        x.shoot(0, 1, 0);
        x.pay(0, 1, 5);
        x.seen(1, 0);
        x.keep(0);
        x.keep(1);
        due("before: purse", x.player(0, 1), 13);
        Checks.tell(x, "slope 5 1");
        due("marble lies as told", x.cell(2, 1), 9);
        due("marble that was shot lies no more", x.cell(0, 1), 0);
        due("purse as told", x.player(0, 1), 10);
        due("purse of the other as told", x.player(1, 1), 20);
        due("debt as told", x.debt(0, 1), 8);
        due("no shot was made", x.count(2), 0);
        due("nothing is seen", x.count(7), 0);
        due("nothing can be undone", x.undo(), NOT);
        due("nothing is kept in 0", x.back(0), NOT);
        due("nothing is kept in 1", x.back(1), NOT);
        x.shoot(0, 1, 0);
        x.keep(0);
        x.seen(1, 0);
        Checks.type(x, "slope 9 9");
        due("a text with a fault", x.patch(), NOT);
        due("shots stay", x.count(2), 1);
        due("seen stays", x.count(7), 1);
        due("kept stays", x.back(0), 1);
    }

    private static void promise6Cell() {
        ForKeeps x = Checks.told("patch 4;slope 0 0;slope 3 4;lay 0 20;lay 3 1");
        due("cell(0, 0)", x.cell(0, 0), 0);
        due("cell(3, 0)", x.cell(3, 0), 4);
        due("cell(1, 0)", x.cell(1, 0), 2);
        due("cell(0, 1)", x.cell(0, 1), 20);
        due("cell(3, 1)", x.cell(3, 1), 1);
        due("cell(1, 1)", x.cell(1, 1), 0);
        due("cell(4, 0)", x.cell(4, 0), UNKNOWN);
        due("cell(-1, 0)", x.cell(-1, 0), UNKNOWN);
        due("cell(4, 9)", x.cell(4, 9), UNKNOWN);
        due("cell(0, -1)", x.cell(0, -1), OUTSIDE);
        due("cell(0, 2)", x.cell(0, 2), OUTSIDE);
    }

    private static void promise7Player() {
        ForKeeps x = Checks.told("steady 1;shaky 22;lucky 33;bank 99;owe 0 1 5;owe 0 2 6;owe 3 0 7;owe 2 0 9");
        for (int p = 0; p < 4; p++) {
            due("kind of " + p, x.player(p, 0), p);
        }
        due("purse of 0", x.player(0, 1), 1);
        due("purse of 3", x.player(3, 1), 99);
        due("0 owes", x.player(0, 2), 11);
        due("0 is owed", x.player(0, 3), 16);
        due("1 owes", x.player(1, 2), 0);
        due("1 is owed", x.player(1, 3), 5);
        due("no player 4", x.player(4, 0), UNKNOWN);
        due("no player -1", x.player(-1, 0), UNKNOWN);
        due("no player 4, what 4", x.player(4, 4), UNKNOWN);
        due("what 4", x.player(0, 4), OUTSIDE);
        due("what -1", x.player(0, -1), OUTSIDE);
    }

    private static void promise8Debt() {
        ForKeeps x = Checks.told("steady 1;shaky 2;bank 3;owe 0 1 5;owe 2 0 99");
        due("debt(0, 1)", x.debt(0, 1), 5);
        due("debt(1, 0)", x.debt(1, 0), 0);
        due("debt(2, 0)", x.debt(2, 0), 99);
        due("debt(1, 1)", x.debt(1, 1), UNKNOWN);
        due("debt(3, 0)", x.debt(3, 0), UNKNOWN);
        due("debt(0, 3)", x.debt(0, 3), UNKNOWN);
        due("debt(-1, 0)", x.debt(-1, 0), UNKNOWN);
        due("debt(0, -1)", x.debt(0, -1), UNKNOWN);
    }

    private static void promise9As() {
        ForKeeps x = Checks.told("steady 1;shaky 2;lucky 3;bank 4");
        int[][] due = {
            {9, 9, NOT, NOT, NOT}, {9, 9, 9, NOT, NOT}, {9, 9, NOT, 9, NOT}, {4, NOT, NOT, NOT, 4},
        };
        for (int p = 0; p < 4; p++) {
            for (int kind = 0; kind < 5; kind++) {
                due("as(" + p + ", " + kind + ")", x.as(p, kind), due[p][kind]);
            }
        }
        due("as(0, 5)", x.as(0, 5), OUTSIDE);
        due("as(0, -1)", x.as(0, -1), OUTSIDE);
        due("as(4, 5)", x.as(4, 5), UNKNOWN);
        due("as(-1, 0)", x.as(-1, 0), UNKNOWN);
    }

    private static void promise10Shoot() {
        ForKeeps x = Checks.told("lay 2 9;steady 2;steady 1");
        due("by 0", x.shoot(0, 0, 0), NONE);
        due("by 0: purse", x.player(0, 1), 2);
        due("by 0: a shot all the same", x.count(2), 1);
        due("by 0: can be undone", x.count(8), 1);
        due("lies", x.shoot(0, 2, 0), 1);
        due("lies: purse", x.player(0, 1), 1);
        due("lies: worth", x.cell(1, 1), 1);
        due("hits it", x.shoot(1, 9, 9999), 1);
        due("hits it: purse", x.player(1, 1), 2);
        due("hits it: gone", x.cell(1, 1), 0);
        due("hits what is told", x.shoot(1, 9, 0), 2);
        due("hits what is told: purse", x.player(1, 1), 11);
        due("hits what is told: gone", x.count(3), 0);
        due("gutter", x.shoot(1, 9, 0), 6);
        due("gutter: purse", x.player(1, 1), 10);
        due("gutter: nothing lies", x.count(3), 0);
        due("last cell", x.shoot(0, 6, 0), 5);
        due("last cell: purse", x.player(0, 1), 0);
        due("shots", x.count(2), 6);
        due("he has nothing", x.shoot(0, 6, 0), NOT);
        due("he has nothing, by 0", x.shoot(0, 0, 0), NOT);
        due("shots after a refusal", x.count(2), 6);
    }

    private static void promise10ShootByKind() {
        ForKeeps x = Checks.told("patch 4;lay 0 9;lucky 5;bank 5;steady 5");
        due("bank hits 9", x.shoot(1, 1, 0), 0);
        due("bank has half, cut", x.player(1, 1), 9);
        due("lucky does not go to the gutter", x.shoot(0, 9, 0), 3);
        due("lucky has 1 less", x.player(0, 1), 4);
        due("it lies there", x.cell(3, 1), 1);
        due("bank hits 1", x.shoot(1, 9, 0), 3);
        due("bank has half of 1, cut: nothing", x.player(1, 1), 9);
        due("none lies", x.count(3), 0);
        due("bank in the gutter", x.shoot(1, 9, 0), 4);
        due("bank in the gutter: purse", x.player(1, 1), 8);
        due("lucky by 0", x.shoot(0, 0, 0), NONE);
        // draws by hand: z 0: x is 1, the draw 1; z 1: x is 7920, its square modulo 65521 22803, the draw 3
        due("shaky, draw 1", Checks.told("shaky 5").shoot(0, 3, 0), 2);
        due("shaky, draw 3", Checks.told("shaky 5").shoot(0, 3, 1), 3);
        due("shaky, draw 3 by 9", Checks.told("patch 9;shaky 5").shoot(0, 9, 1), 9);
        due("steady, same z", Checks.told("steady 5").shoot(0, 3, 1), 2);
        int zero = firstZ(0, 0);
        due("shaky, draw 0", Checks.told("shaky 5").shoot(0, 3, zero), 1);
        due("shaky, draw 0 by 0", Checks.told("shaky 5").shoot(0, 0, zero), NONE);
        due("shaky, draw 0 by 1", Checks.told("shaky 5").shoot(0, 1, zero), NONE);
        ForKeeps y = Checks.told("patch 9;steady 99;shaky 99");
        for (int shots = 0; shots < 20; shots++) {
            int z = 9999 - shots;
            due("shaky, z " + z + ", " + shots + " shots", y.shoot(1, 9, z), 7 + moreBy(draw(z, shots)));
            y.undo();
            y.shoot(0, 0, 0);
        }
    }

    private static int moreBy(int draw) {
        return draw == 0 ? 0 : draw == 3 ? 2 : 1;
    }

    private static int draw(int z, int shots) {
        long x = 7919L * z + 6151L * shots + 1;
        return (int) (x * x % 65521 % 4);
    }

    private static int firstZ(int draw, int shots) {
        int z = 0;
        while (draw(z, shots) != draw) {
            z++;
        }
        return z;
    }

    private static void promise10ShootRefused() {
        ForKeeps x = Checks.told("steady 1;steady 0");
        due("no player", x.shoot(2, 1, 0), UNKNOWN);
        due("no player, wrong force", x.shoot(-1, 10, 0), UNKNOWN);
        due("force 10", x.shoot(0, 10, 0), OUTSIDE);
        due("force -1", x.shoot(0, -1, 0), OUTSIDE);
        due("z -1", x.shoot(0, 1, -1), OUTSIDE);
        due("z 10000", x.shoot(0, 1, 10000), OUTSIDE);
        due("nothing, wrong force", x.shoot(1, 10, 0), OUTSIDE);
        due("nothing", x.shoot(1, 1, 0), NOT);
        due("no shots", x.count(2), 0);
        due("nothing to undo", x.count(8), 0);
    }

    private static void promise11Pay() {
        ForKeeps x = Checks.told("steady 10;bank 3;owe 0 1 8;owe 1 0 5");
        due("pay(0, 1, 3)", x.pay(0, 1, 3), 5);
        due("payer", x.player(0, 1), 7);
        due("paid", x.player(1, 1), 6);
        due("the other debt stays", x.debt(1, 0), 5);
        due("no shot", x.count(2), 0);
        due("more than he owes", x.pay(0, 1, 6), NOT);
        due("all that he owes", x.pay(0, 1, 5), 0);
        due("nothing owed", x.pay(0, 1, 1), NOT);
        due("no such player", x.pay(2, 0, 1), UNKNOWN);
        due("no such other", x.pay(0, 2, 1), UNKNOWN);
        due("himself", x.pay(0, 0, 1), UNKNOWN);
        due("himself, 0", x.pay(0, 0, 0), UNKNOWN);
        due("0", x.pay(1, 0, 0), OUTSIDE);
        due("100", x.pay(1, 0, 100), OUTSIDE);
        due("-1", x.pay(1, 0, -1), OUTSIDE);
        ForKeeps y = Checks.told("steady 3;steady 0;owe 0 1 99");
        due("more than he has", y.pay(0, 1, 4), NOT);
        due("all that he has", y.pay(0, 1, 3), 96);
        due("he has nothing left", y.player(0, 1), 0);
        due("he has nothing", y.pay(0, 1, 1), NOT);
    }

    /** A purse grows beyond what a text may tell; its end of 999 is beyond all marbles and purses of one text. */
    private static void promise11RichestPurse() {
        ForKeeps x = Checks.told("patch 9;steady 99;bank 99;bank 99;bank 99;bank 99",
            "owe 1 0 99;owe 2 0 99;owe 3 0 99;owe 4 0 99",
            "lay 0 20;lay 1 20;lay 2 20;lay 3 20;lay 4 20;lay 5 20;lay 6 20;lay 7 20;lay 8 20");
        for (int p = 1; p < 5; p++) {
            due("all that " + p + " owes", x.pay(p, 0, 99), 0);
        }
        for (int cell = 0; cell < 9; cell++) {
            due("hit on " + cell, x.shoot(0, 9, 0), cell);
        }
        due("the richest", x.player(0, 1), 99 + 4 * 99 + 9 * 20);
    }

    private static void promise12Undo() {
        ForKeeps x = Checks.told("lay 2 9;steady 20;shaky 5;owe 0 1 9");
        String before = Checks.look(x);
        x.seen(1, 0);
        x.forget();
        x.shoot(0, 9, 0);
        String afterOne = Checks.look(x);
        x.pay(0, 1, 9);
        due("undo a payment", x.undo(), 1);
        CHECKS.isTrue("as before the payment", Checks.look(x).equals(afterOne));
        due("undo a shot", x.undo(), 0);
        CHECKS.isTrue("as before the shot", Checks.look(x).equals(before));
        due("nothing left", x.undo(), NOT);
        String[] looks = new String[12];
        for (int i = 0; i < 12; i++) {
            looks[i] = Checks.look(x);
            x.shoot(0, 1 + i % 3, i);
            x.shoot(0, 10, 0);
            due("can be undone behind " + (i + 1), x.count(8), Math.min(8, i + 1));
        }
        for (int i = 11; i > 3; i--) {
            due("undo " + i, x.undo(), i - 4);
            String look = Checks.look(x);
            CHECKS.isTrue("as before shot " + i, sameButUndo(look, looks[i]));
        }
        due("the ninth can't be undone", x.undo(), NOT);
        due("shots left", x.count(2), 4);
        x.seen(2, 1);
        x.shoot(0, 1, 0);
        x.undo();
        due("undo leaves what is seen", x.count(7), 1);
    }

    /** How many can be undone is the ninth number of a look, and differs by its nature. */
    private static boolean sameButUndo(String look, String other) {
        String[] a = look.split(" ");
        String[] b = other.split(" ");
        a[8] = "";
        b[8] = "";
        return java.util.Arrays.equals(a, b);
    }

    private static void promise13Keep() {
        ForKeeps x = Checks.told("steady 9;bank 9;owe 0 1 9");
        due("keep(-1)", x.keep(-1), UNKNOWN);
        due("keep(2)", x.keep(2), UNKNOWN);
        due("keep(0)", x.keep(0), 0);
        x.shoot(0, 1, 0);
        due("keep(1)", x.keep(1), 1);
        due("keep leaves what can be undone", x.count(8), 1);
        x.shoot(0, 3, 0);
        due("keep(1) again", x.keep(1), 2);
        x.undo();
        due("what was kept last", x.back(1), 2);
        due("kept first", x.back(0), 0);
    }

    private static void promise14Back() {
        ForKeeps x = Checks.told("lay 3 7;steady 9;bank 9;owe 0 1 9;owe 1 0 2");
        due("back(2)", x.back(2), UNKNOWN);
        due("back(-1)", x.back(-1), UNKNOWN);
        due("back(0), nothing kept", x.back(0), NOT);
        x.shoot(0, 1, 0);
        x.keep(0);
        due("back(1), nothing kept there", x.back(1), NOT);
        String kept = Checks.look(x);
        x.shoot(1, 1, 0);
        x.shoot(1, 9, 0);
        x.pay(0, 1, 4);
        x.seen(4, 3);
        due("back(0)", x.back(0), 1);
        due("nothing can be undone", x.undo(), NOT);
        due("what is seen stays", x.count(7), 1);
        x.forget();
        CHECKS.isTrue("as it was kept", sameButUndo(Checks.look(x), kept));
        x.shoot(0, 3, 0);
        due("back(0) again", x.back(0), 1);
        CHECKS.isTrue("as it was kept, again", sameButUndo(Checks.look(x), kept));
        Checks.type(x, "eve");
        x.back(0);
        due("the text stays", x.count(9), 3);
    }

    private static void promise15Stop() {
        ForKeeps x = Checks.told("patch 5;slope 0 0;slope 1 4;slope 2 3;slope 3 1;lay 4 6;lucky 9");
        int[] stops = {NONE, 1, 1, 2, 2, 4, 4, 4, 4, 4};
        int[] hits = {0, 0, 0, 0, 0, 6, 6, 6, 6, 6};
        for (int force = 0; force < 10; force++) {
            due("stop(" + force + ", 0)", x.stop(force, 0), stops[force]);
            due("stop(" + force + ", 1)", x.stop(force, 1), hits[force]);
        }
        x.shoot(0, 9, 0);
        due("the gutter of nobody's kind", x.stop(9, 0), 5);
        due("it goes on without end down", Checks.told("patch 9;slope 0 1").stop(1, 0), 1);
        due("stop(-1, 0)", x.stop(-1, 0), OUTSIDE);
        due("stop(10, 0)", x.stop(10, 0), OUTSIDE);
        due("stop(0, 2)", x.stop(0, 2), OUTSIDE);
        due("stop(0, -1)", x.stop(0, -1), OUTSIDE);
    }

    private static void odds(ForKeeps x, int player, int force, int above, int below) {
        due("odds(" + player + ", " + force + ") above", x.odds(player, force, 0), above);
        due("odds(" + player + ", " + force + ") below", x.odds(player, force, 1), below);
    }

    private static void promise16Odds() {
        ForKeeps x = Checks.told("lay 3 5;steady 9;shaky 9;lucky 0;bank 9");
        odds(x, 0, 3, 0, 1);
        odds(x, 0, 4, 1, 1);
        odds(x, 2, 9, 1, 1);
        odds(x, 3, 0, 0, 1);
        odds(x, 1, 0, 0, 1);
        odds(x, 1, 2, 0, 1);
        odds(x, 1, 3, 1, 4);
        odds(x, 1, 4, 3, 4);
        odds(x, 1, 5, 1, 1);
        ForKeeps y = Checks.told("lay 0 1;shaky 0");
        odds(y, 0, 0, 1, 4);
        odds(y, 0, 1, 3, 4);
        // force 3 and 4 stop short of a marble that 5 hits, as a slope up takes 1 more
        ForKeeps z = Checks.told("slope 0 3;lay 3 9;shaky 5");
        odds(z, 0, 4, 1, 4);
        odds(z, 0, 5, 3, 4);
        due("no player", x.odds(4, 10, 2), UNKNOWN);
        due("force 10", x.odds(0, 10, 0), OUTSIDE);
        due("force -1", x.odds(0, -1, 0), OUTSIDE);
        due("part 2", x.odds(0, 1, 2), OUTSIDE);
        due("part -1", x.odds(0, 1, -1), OUTSIDE);
    }

    private static void promise17Mean() {
        ForKeeps x = Checks.told("lay 3 5;steady 9;shaky 9;lucky 0;bank 9");
        due("steady by 0", x.mean(0, 0), 9999);
        due("steady by 1", x.mean(0, 1), 9999 - 4);
        due("steady by 4", x.mean(0, 4), 9999 + 20);
        due("bank by 4", x.mean(3, 4), 9999 + 8);
        due("lucky with nothing", x.mean(2, 3), 9999 - 4);
        due("shaky by 0: a quarter lies", x.mean(1, 0), 9999 - 1);
        due("shaky by 1: a quarter stays", x.mean(1, 1), 9999 - 3);
        due("shaky by 3", x.mean(1, 3), 9999 - 3 + 5);
        due("shaky by 4", x.mean(1, 4), 9999 - 1 + 15);
        due("shaky by 9", x.mean(1, 9), 9999 + 20);
        ForKeeps y = Checks.told("steady 9;lucky 9;shaky 9");
        due("gutter", y.mean(0, 9), 9999 - 4);
        due("lucky, no gutter", y.mean(1, 9), 9999 - 4);
        due("shaky by 6", y.mean(2, 6), 9999 - 4);
        due("no player", y.mean(3, 10), UNKNOWN);
        due("force 10", y.mean(0, 10), OUTSIDE);
        due("force -1", y.mean(0, -1), OUTSIDE);
        due("nothing changes", y.count(2) + y.count(3) + y.count(8), 0);
    }

    private static void promise18Best() {
        ForKeeps x = Checks.told("lay 3 5;steady 9;shaky 9;lucky 0;bank 9");
        due("steady", x.best(0, 0), 4);
        due("steady, how much", x.best(0, 1), 9999 + 20);
        due("shaky", x.best(1, 0), 5);
        due("shaky, how much", x.best(1, 1), 9999 + 20);
        due("bank, how much", x.best(3, 1), 9999 + 8);
        due("by 1", Checks.told("lay 0 2;steady 9").best(0, 0), 1);
        due("by 9", Checks.told("patch 9;lay 8 2;steady 9").best(0, 0), 9);
        ForKeeps y = Checks.told("steady 9;shaky 9");
        due("nothing to hit", y.best(0, 0), 0);
        due("nothing to hit, how much", y.best(0, 1), 9999);
        due("shaky, nothing to hit", y.best(1, 0), 0);
        due("shaky, nothing to hit, how much", y.best(1, 1), 9998);
        due("no player", y.best(2, 2), UNKNOWN);
        due("what 2", y.best(0, 2), OUTSIDE);
        due("what -1", y.best(0, -1), OUTSIDE);
    }

    private static void two(String text, int forces, int most) {
        ForKeeps x = Checks.told(text);
        String look = Checks.look(x);
        due("two of '" + text + "': forces", x.two(0), forces);
        due("two of '" + text + "': most", x.two(1), most);
        CHECKS.isTrue("two changes nothing", Checks.look(x).equals(look));
    }

    private static void promise19Two() {
        two("patch 6", 11, 1);
        two("lay 0 5;lay 1 9", 12, 14);
        two("lay 5 9", 6, 9);
        two("lay 0 1", 1, 1);
        two("lay 0 2;lay 5 20", 16, 22);
        two("lay 0 2;slope 5 4;slope 4 0;patch 4;lay 3 20", 4, 20);
        // down the first cell and up the second one: both roll to the second cell
        two("slope 0 1;slope 1 4", 11, 1);
        // behind a slope that only 9 comes over
        two("patch 9;slope 6 3;slope 7 0;lay 7 5;lay 8 6", 99, 11);
        ForKeeps x = new ForKeeps();
        due("two(2)", x.two(2), OUTSIDE);
        due("two(-1)", x.two(-1), OUTSIDE);
    }

    private static void promise20Seen() {
        ForKeeps x = new ForKeeps();
        due("force -1", x.seen(-1, 0), OUTSIDE);
        due("force 10", x.seen(10, 0), OUTSIDE);
        due("stop 7 of 6 cells", x.seen(0, 7), OUTSIDE);
        due("stop -2", x.seen(0, -2), OUTSIDE);
        due("where it was", x.seen(0, -1), 1);
        due("the gutter", x.seen(9, 6), 2);
        due("what can't be", x.seen(0, 5), 3);
        x.seen(1, 0);
        x.seen(2, 1);
        due("a sixth", x.seen(2, 1), 6);
        due("a seventh", x.seen(2, 1), FULL);
        due("a seventh, outside", x.seen(2, 7), OUTSIDE);
        due("how many", x.count(7), 6);
        ForKeeps y = Checks.told("patch 9");
        due("stop 9 of 9 cells", y.seen(9, 9), 1);
    }

    private static void promise21Forget() {
        ForKeeps x = new ForKeeps();
        due("forget nothing", x.forget(), 0);
        x.seen(1, 1);
        x.seen(1, 0);
        due("nothing fits", x.slopes(0), 0);
        due("forget", x.forget(), 2);
        due("how many", x.count(7), 0);
        due("all fits", x.slopes(0), 31);
        due("seen after forget", x.seen(2, 1), 1);
        due("forget again", x.forget(), 1);
    }

    private static void promise22Slopes() {
        ForKeeps x = Checks.told("slope 1 3;lay 0 5;lay 3 9;steady 5");
        due("nothing seen", x.slopes(5), 31);
        x.seen(4, 2);
        // with slope u on cell 0: 5 - u is left behind it, 3 - u behind cell 1, 2 - u behind cell 2
        due("slope of 0", x.slopes(0), 4);
        due("slope of 1", x.slopes(1), 8);
        due("slope of 2: none or up", x.slopes(2), 4 + 8 + 16);
        due("slope of 3: any", x.slopes(3), 31);
        x.seen(5, 3);
        due("slope of 2: none", x.slopes(2), 4);
        due("slope of 3: none or up", x.slopes(3), 4 + 8 + 16);
        x.seen(0, -1);
        due("by 0 all fits", x.slopes(3), 28);
        x.seen(9, 0);
        due("nothing fits", x.slopes(2), 0);
        due("no cell 6", x.slopes(6), UNKNOWN);
        due("no cell -1", x.slopes(-1), UNKNOWN);
        due("the slope is as told yet", x.cell(1, 0), 3);
        due("marbles lie yet", x.count(3), 9);
    }

    private static void ruin(int a, int b, int q, long above, long below) {
        ForKeeps x = new ForKeeps();
        due("ruin(" + a + ", " + b + ", " + q + ") above", x.ruin(a, b, q, 0), above);
        due("ruin(" + a + ", " + b + ", " + q + ") below", x.ruin(a, b, q, 1), below);
    }

    private static void promise23Ruin() {
        ruin(1, 2, 5, 1, 2);
        ruin(2, 8, 5, 1, 4);
        ruin(0, 8, 5, 0, 1);
        ruin(8, 8, 5, 1, 1);
        ruin(1, 2, 6, 3, 5);
        ruin(1, 2, 1, 1, 10);
        ruin(1, 8, 1, 1, 5380840);
        ruin(7, 8, 9, 5380839, 5380840);
        ruin(0, 1, 10, 0, 1);
        ruin(0, 8, 7, 0, 1);
        ruin(1, 8, 10, 1, 1);
        ruin(1, 8, 0, 0, 1);
        ruin(8, 8, 0, 1, 1);
        ruin(1, 1, 0, 1, 1);
        ForKeeps x = new ForKeeps();
        due("a -1", x.ruin(-1, 2, 5, 0), OUTSIDE);
        due("a 9", x.ruin(9, 9, 5, 0), OUTSIDE);
        due("b 0", x.ruin(0, 0, 5, 0), OUTSIDE);
        due("b 9", x.ruin(0, 9, 5, 0), OUTSIDE);
        due("b below a", x.ruin(3, 2, 5, 0), OUTSIDE);
        due("q -1", x.ruin(1, 2, -1, 0), OUTSIDE);
        due("q 11", x.ruin(1, 2, 11, 0), OUTSIDE);
        due("part 2", x.ruin(1, 2, 5, 2), OUTSIDE);
        due("part -1", x.ruin(1, 2, 5, -1), OUTSIDE);
    }

    private static void netted(String debts, int want) {
        ForKeeps x = Checks.told("bank 9;bank 9;bank 9;bank 9;bank 9", debts);
        due("netted of '" + debts + "'", x.netted(), want);
    }

    private static void promise24Netted() {
        due("nobody", new ForKeeps().netted(), 0);
        due("one", Checks.told("bank 1").netted(), 0);
        netted("even", 0);
        netted("owe 0 1 5", 1);
        netted("owe 0 1 5;owe 1 0 5", 0);
        netted("owe 0 1 5;owe 1 2 5;owe 2 0 5", 0);
        netted("owe 0 1 5;owe 1 2 5", 1);
        netted("owe 0 1 5;owe 0 2 4", 2);
        netted("owe 0 1 5;owe 2 3 5", 2);
        netted("owe 0 1 5;owe 2 3 5;owe 0 3 1", 2);
        netted("owe 0 1 5;owe 0 2 4;owe 3 4 2", 3);
        netted("owe 0 2 3;owe 0 3 2;owe 1 3 1;owe 1 4 3", 4);
        // 0 owes 5, 1 owes 3; 2 is owed 3, 3 is owed 4, 4 is owed 1: 1 and 2 come out even
        netted("owe 0 2 3;owe 0 3 2;owe 1 3 2;owe 1 4 1", 3);
        ForKeeps x = Checks.told("bank 9;bank 9;owe 0 1 5");
        x.pay(0, 1, 5);
        due("netted behind a payment", x.netted(), 0);
    }

    private static void promise25Ring() {
        ForKeeps x = Checks.told("bank 9;bank 9;bank 9;bank 9;bank 9",
            "owe 0 1 1;owe 1 2 1;owe 2 3 1;owe 3 0 1;owe 2 1 1");
        due("ring(0)", x.ring(0), 4);
        due("ring(1)", x.ring(1), 2);
        due("ring(2)", x.ring(2), 2);
        due("ring(3)", x.ring(3), 4);
        due("ring(4)", x.ring(4), NONE);
        due("ring(5)", x.ring(5), UNKNOWN);
        due("ring(-1)", x.ring(-1), UNKNOWN);
        x.pay(2, 1, 1);
        due("ring(1) behind a payment", x.ring(1), 4);
        x.pay(0, 1, 1);
        due("ring(1) of none", x.ring(1), NONE);
        ForKeeps y = Checks.told("bank 9;bank 9;bank 9;bank 9;bank 9",
            "owe 4 3 1;owe 3 2 1;owe 2 1 1;owe 1 0 1;owe 0 4 1");
        for (int p = 0; p < 5; p++) {
            due("ring of five, from " + p, y.ring(p), 5);
        }
        // a ring that he only leads to is not his
        ForKeeps z = Checks.told("bank 9;bank 9;bank 9;owe 0 1 1;owe 1 2 1;owe 2 1 1");
        due("no ring of his own", z.ring(0), NONE);
        due("three", Checks.told("bank 9;bank 9;bank 9;owe 0 1 1;owe 1 2 1;owe 2 0 1").ring(0), 3);
    }

    private static void promise26Poor() {
        due("nobody", new ForKeeps().poor(), 0);
        ForKeeps x = Checks.told("bank 5;bank 5;bank 0;steady 0;owe 0 2 5;owe 1 2 6;owe 3 2 1");
        due("who owes more than he has", x.poor(), 2 + 8);
        x.shoot(0, 1, 0);
        due("behind a shot", x.poor(), 1 + 2 + 8);
        ForKeeps y = Checks.told("bank 5;bank 5;bank 0;owe 0 2 50;owe 2 0 45");
        due("on the whole", y.poor(), 0);
        due("one more", Checks.told("bank 5;bank 5;bank 0;owe 0 2 50;owe 2 0 44").poor(), 1);
        due("fifth", Checks.told("bank 9;bank 9;bank 9;bank 9;bank 9;owe 4 0 10").poor(), 16);
    }

    private static void rain(int n, int k, int q, int above, int below) {
        ForKeeps x = new ForKeeps();
        due("rain(" + n + ", " + k + ", " + q + ") above", x.rain(n, k, q, 0), above);
        due("rain(" + n + ", " + k + ", " + q + ") below", x.rain(n, k, q, 1), below);
    }

    private static void promise27Rain() {
        rain(0, 0, 0, 1, 1);
        rain(0, 1, 10, 0, 1);
        rain(6, 0, 3, 1, 1);
        rain(6, 6, 10, 1, 1);
        rain(6, 1, 0, 0, 1);
        rain(5, 6, 9, 0, 1);
        rain(3, 2, 5, 1, 2);
        rain(1, 1, 4, 2, 5);
        rain(2, 1, 1, 19, 100);
        rain(6, 6, 3, 729, 1000000);
        rain(6, 3, 5, 21, 32);
        rain(4, 2, 7, 9163, 10000);
        ForKeeps x = new ForKeeps();
        due("n -1", x.rain(-1, 0, 5, 0), OUTSIDE);
        due("n 7", x.rain(7, 0, 5, 0), OUTSIDE);
        due("k -1", x.rain(6, -1, 5, 0), OUTSIDE);
        due("k 7", x.rain(6, 7, 5, 0), OUTSIDE);
        due("q -1", x.rain(6, 0, -1, 0), OUTSIDE);
        due("q 11", x.rain(6, 0, 11, 0), OUTSIDE);
        due("part 2", x.rain(6, 0, 5, 2), OUTSIDE);
        due("part -1", x.rain(6, 0, 5, -1), OUTSIDE);
    }

    private static void promise28Count() {
        ForKeeps x = Checks.told("patch 9;lay 8 20;lay 0 3;steady 9;bank 99;shaky 0;owe 0 1 7;owe 1 2 8");
        x.shoot(0, 0, 0);
        x.shoot(0, 0, 0);
        x.pay(0, 1, 2);
        x.seen(0, 0);
        x.seen(0, 0);
        x.seen(0, 0);
        x.seen(0, 0);
        Checks.type(x, "hello");
        int[] due = {9, 3, 2, 257, 23, 108, 13, 4, 3, 5};
        for (int what = 0; what < 10; what++) {
            due("count(" + what + ")", x.count(what), due[what]);
        }
        due("count(10)", x.count(10), OUTSIDE);
        due("count(-1)", x.count(-1), OUTSIDE);
    }
}
