import java.util.Random;

/** Long runs of mixed calls: the class and the model must answer alike. */
public final class ModelTest {
    private static final int RUNS = 3000;
    private static final int CALLS = 512;
    private static final Checks CHECKS = new Checks("ModelTest");

    private final Random random;
    private final int run;
    private final ForKeeps x = new ForKeeps();
    private final Model model = new Model();
    private int calls;

    private ModelTest(int run) {
        this.run = run;
        this.random = new Random(run);
    }

    public static void main(String[] args) {
        for (int run = 0; run < RUNS && CHECKS.wrong() < 20; run++) {
            new ModelTest(run).go();
        }
        allChances();
        CHECKS.end();
    }

    private static void allChances() {
        ForKeeps x = new ForKeeps();
        Model model = new Model();
        for (int a = -1; a < 10; a++) {
            for (int b = -1; b < 10; b++) {
                for (int q = -1; q < 12; q++) {
                    for (int part = -1; part < 3; part++) {
                        String numbers = "(" + a + ", " + b + ", " + q + ", " + part + ")";
                        CHECKS.due("ruin" + numbers, x.ruin(a, b, q, part), model.ruin(a, b, q, part));
                        CHECKS.due("rain" + numbers, x.rain(a, b, q, part), model.rain(a, b, q, part));
                    }
                }
            }
        }
    }

    private void go() {
        text();
        while (calls < CALLS) {
            int kind = random.nextInt(40);
            if (kind == 0) {
                text();
            } else if (kind < 20) {
                change();
            } else {
                ask();
            }
        }
    }

    private void due(String call, long got, long want) {
        calls++;
        CHECKS.due("run " + run + ", call " + calls + ": " + call, got, want);
    }

    /** Mostly a number in its bounds, at times one beside them. */
    private int number(int low, int high) {
        if (random.nextInt(40) == 0) {
            return random.nextBoolean() ? low - 1 : high + 1;
        }
        return low + random.nextInt(high - low + 1);
    }

    private int player() {
        return number(0, Math.max(0, model.count(1) - 1));
    }

    private int cell() {
        return number(0, model.count(0) - 1);
    }

    private void text() {
        StringBuilder text = new StringBuilder();
        int clauses = 1 + random.nextInt(random.nextInt(8) == 0 ? 18 : 10);
        int cells = model.count(0);
        int players = model.count(1);
        for (int i = 0; i < clauses; i++) {
            text.append(i == 0 ? "" : ";");
            int verb = random.nextInt(i == 0 ? 20 : 19);
            if (verb >= 18) {
                cells = number(4, 9);
                players = 0;
                text.append("patch ").append(cells);
            } else if (verb < 4) {
                text.append("slope ").append(number(0, cells - 1)).append(' ').append(number(0, 4));
            } else if (verb < 8) {
                text.append("lay ").append(number(0, cells - 1)).append(' ').append(number(1, 20));
            } else if (players > 1 && verb < 13 || players > 4 && random.nextInt(20) > 0) {
                text.append("owe ").append(number(0, players - 1)).append(' ').append(number(0, players - 1));
                text.append(' ').append(number(0, random.nextBoolean() ? 5 : 99));
            } else if (verb == 17 && random.nextInt(4) == 0) {
                text.append("even");
            } else {
                players++;
                String[] kinds = {"steady ", "shaky ", "lucky ", "bank "};
                text.append(kinds[random.nextInt(4)]).append(number(0, random.nextBoolean() ? 9 : 99));
            }
        }
        spoil(text);
        type(text.toString());
    }

    private void spoil(StringBuilder text) {
        if (random.nextInt(5) == 0) {
            String signs = " ;;  x07A.\t" + (char) 233;
            int place = random.nextInt(text.length() + 1);
            text.insert(place, signs.charAt(random.nextInt(signs.length())));
        }
        if (random.nextInt(8) == 0) {
            text.deleteCharAt(random.nextInt(text.length()));
        }
    }

    private void type(String text) {
        for (int i = 0; i < text.length(); i++) {
            int letter = text.charAt(i);
            due("write(" + letter + ")", x.write(letter), model.write(letter));
            if (random.nextInt(60) == 0) {
                due("fault()", x.fault(), model.fault());
            }
        }
        due("fault() of '" + text + "'", x.fault(), model.fault());
        due("patch()", x.patch(), model.patch());
        if (random.nextInt(3) > 0) {
            due("erase()", x.erase(), model.erase());
        }
    }

    private void change() {
        int a = player();
        int b = player();
        int force = number(0, 9);
        int z = number(0, 9999);
        int k = number(0, 1);
        switch (random.nextInt(10)) {
            case 0: case 1: case 2: case 3:
                due("shoot(" + a + ", " + force + ", " + z + ")", x.shoot(a, force, z), model.shoot(a, force, z));
                break;
            case 4: case 5:
                int n = number(1, random.nextBoolean() ? 5 : 99);
                due("pay(" + a + ", " + b + ", " + n + ")", x.pay(a, b, n), model.pay(a, b, n));
                break;
            case 6:
                due("undo()", x.undo(), model.undo());
                break;
            case 7:
                due("keep(" + k + ")", x.keep(k), model.keep(k));
                break;
            case 8:
                if (random.nextInt(3) == 0) {
                    due("back(" + k + ")", x.back(k), model.back(k));
                }
                break;
            default:
                sight(force);
                break;
        }
        for (int what = 0; what < 10; what++) {
            due("count(" + what + ")", x.count(what), model.count(what));
        }
    }

    private void sight(int force) {
        if (random.nextInt(5) == 0) {
            due("forget()", x.forget(), model.forget());
            return;
        }
        boolean isLikely = random.nextInt(3) > 0 && model.stop(force, 0) >= 0;
        int stop = isLikely ? model.stop(force, 0) : number(-1, model.count(0));
        due("seen(" + force + ", " + stop + ")", x.seen(force, stop), model.seen(force, stop));
    }

    private void ask() {
        int p = player();
        int o = player();
        int c = cell();
        int force = number(0, 9);
        int two = number(0, 1);
        String args = " of player " + p + ", " + o + ", cell " + c + ", force " + force + ", what " + two;
        switch (random.nextInt(9)) {
            case 0:
                due("cell" + args, x.cell(c, two), model.cell(c, two));
                due("slopes" + args, x.slopes(c), model.slopes(c));
                break;
            case 1:
                int what = number(0, 3);
                due("player " + what + args, x.player(p, what), model.player(p, what));
                due("debt" + args, x.debt(p, o), model.debt(p, o));
                break;
            case 2:
                int kind = number(0, 4);
                due("as " + kind + args, x.as(p, kind), model.as(p, kind));
                break;
            case 3:
                due("stop" + args, x.stop(force, two), model.stop(force, two));
                due("two" + args, x.two(two), model.two(two));
                break;
            case 4:
                due("odds" + args, x.odds(p, force, two), model.odds(p, force, two));
                break;
            case 5:
                due("mean" + args, x.mean(p, force), model.mean(p, force));
                due("best" + args, x.best(p, two), model.best(p, two));
                break;
            case 6:
                due("netted" + args, x.netted(), model.netted());
                break;
            case 7:
                due("ring" + args, x.ring(p), model.ring(p));
                break;
            default:
                due("poor" + args, x.poor(), model.poor());
                break;
        }
    }
}
