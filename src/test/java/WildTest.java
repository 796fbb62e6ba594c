import java.util.Random;

/** Any numbers in any state: no call throws, and what is refused changes nothing. */
public final class WildTest {
    private static final Checks CHECKS = new Checks("WildTest");
    private static final int[] EDGES = {
        Integer.MIN_VALUE, Integer.MIN_VALUE + 1, -10000, -256, -10, -5, -4, -3, -2, -1, 0, 1, 2, 3, 4, 5, 6, 7, 8, 9,
        10, 11, 14, 20, 31, 32, 33, 99, 100, 160, 255, 256, 999, 9999, 10000, 65536, Integer.MAX_VALUE - 1,
        Integer.MAX_VALUE,
    };
    private static final String[] TEXTS = {
        "patch 9;steady 9;shaky 9;lucky 9;bank 9;bank 0;owe 0 1 9;owe 1 0 3;lay 4 9",
        "patch 4;slope 0 4;slope 1 0;lay 3 20;lucky 1;shaky 99;owe 0 1 99", "even", "lay 0 1;slope 0 0",
    };

    public static void main(String[] args) {
        for (int run = 0; run < 400 && CHECKS.wrong() < 20; run++) {
            wildRun(new Random(run), run);
        }
        CHECKS.end();
    }

    private static void wildRun(Random random, int run) {
        ForKeeps x = new ForKeeps();
        for (int i = 0; i < 512; i++) {
            if (random.nextInt(60) == 0) {
                Checks.type(x, TEXTS[random.nextInt(TEXTS.length)]);
            }
            int call = random.nextInt(27);
            int[] n = new int[4];
            for (int k = 0; k < 4; k++) {
                n[k] = random.nextInt(3) > 0 ? random.nextInt(4) : EDGES[random.nextInt(EDGES.length)];
            }
            String before = Checks.look(x);
            long answer = call(x, call, n);
            String what = "run " + run + ", call " + call + " of " + java.util.Arrays.toString(n) + ": ";
            CHECKS.isTrue(what + "an answer below all refusals, " + answer, answer >= -5);
            boolean changes = call < 9;
            if (answer < ForKeeps.NONE || !changes) {
                CHECKS.isTrue(what + "nothing changes", Checks.look(x).equals(before));
            }
        }
    }

    /** Those that may change something come first. */
    private static long call(ForKeeps x, int call, int[] n) {
        switch (call) {
            case 0: return x.write(n[0]);
            case 1: return x.erase();
            case 2: return x.patch();
            case 3: return x.shoot(n[0], n[1], n[2]);
            case 4: return x.pay(n[0], n[1], n[2]);
            case 5: return x.undo();
            case 6: return x.back(n[0]);
            case 7: return x.seen(n[0], n[1]);
            case 8: return x.forget();
            case 9: return x.keep(n[0]);
            case 10: return x.fault();
            case 11: return x.cell(n[0], n[1]);
            case 12: return x.player(n[0], n[1]);
            case 13: return x.debt(n[0], n[1]);
            case 14: return x.as(n[0], n[1]);
            case 15: return x.stop(n[0], n[1]);
            case 16: return x.odds(n[0], n[1], n[2]);
            case 17: return x.mean(n[0], n[1]);
            case 18: return x.best(n[0], n[1]);
            case 19: return x.two(n[0]);
            case 20: return x.slopes(n[0]);
            case 21: return x.ruin(n[0], n[1], n[2], n[3]);
            case 22: return x.netted();
            case 23: return x.ring(n[0]);
            case 24: return x.poor();
            case 25: return x.rain(n[0], n[1], n[2], n[3]);
            default: return x.count(n[0]);
        }
    }
}
