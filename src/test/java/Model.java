import java.math.BigInteger;
import java.util.ArrayDeque;
import java.util.ArrayList;
import java.util.Arrays;
import java.util.Deque;
import java.util.List;
import java.util.regex.Matcher;
import java.util.regex.Pattern;

/**
 * The document once more, in other ways than the class goes: tokens by a pattern, whole copies of the world,
 * settling, rings and rain by trying everything, ruin by the equations of its states.
 */
final class Model {
    static final int NONE = -1, UNKNOWN = -2, OUTSIDE = -3, NOT = -4, FULL = -5;
    private static final List<String> KINDS = List.of("steady", "shaky", "lucky", "bank");
    private static final Pattern TOKEN = Pattern.compile("[a-z]+|[0-9]+|[^ ]", Pattern.DOTALL);

    /** All that keep() keeps. */
    private static final class World {
        int[] slope = {2, 2, 2, 2, 2, 2};
        int[] worth = new int[6];
        List<int[]> players = new ArrayList<>();
        int[][] debt = new int[5][5];
        int shots;

        World copy() {
            World w = new World();
            w.slope = slope.clone();
            w.worth = worth.clone();
            for (int[] player : players) {
                w.players.add(player.clone());
            }
            for (int i = 0; i < 5; i++) {
                w.debt[i] = debt[i].clone();
            }
            w.shots = shots;
            return w;
        }
    }

    private record Token(String word, int place) { }

    private World told = new World();
    private World now = new World();
    private final World[] kept = new World[2];
    private final Deque<World> past = new ArrayDeque<>();
    private final List<int[]> seen = new ArrayList<>();
    private final StringBuilder text = new StringBuilder();

    // ---- the text

    int write(int letter) {
        if (letter < 0 || letter > 255) {
            return OUTSIDE;
        }
        if (text.length() == 160) {
            return FULL;
        }
        return text.append((char) letter).length();
    }

    int erase() {
        int had = text.length();
        text.setLength(0);
        return had;
    }

    /** Does the clauses on the world till the first fault: its place, or NONE; clauses[0] counts them. */
    private int run(World w, int[] clauses) {
        List<Token> tokens = new ArrayList<>();
        Matcher matcher = TOKEN.matcher(text);
        while (matcher.find()) {
            tokens.add(new Token(matcher.group(), matcher.start()));
        }
        tokens.add(new Token("", text.length()));
        int at = 0;
        while (true) {
            int[] numbers = new int[3];
            String word = tokens.get(at).word();
            int[][] bounds = bounds(word, w);
            if (bounds == null) {
                return tokens.get(at).place();
            }
            at++;
            for (int i = 0; i < bounds.length; i++, at++) {
                String digits = tokens.get(at).word();
                boolean fits = digits.matches("[0-9]{1,2}");
                numbers[i] = fits ? Integer.parseInt(digits) : 0;
                fits = fits && numbers[i] >= bounds[i][0] && numbers[i] <= bounds[i][1];
                fits = fits && !(word.equals("owe") && i == 1 && numbers[0] == numbers[1]);
                if (!fits) {
                    return tokens.get(at).place();
                }
            }
            obey(w, word, numbers);
            clauses[0]++;
            if (tokens.get(at).word().isEmpty()) {
                return NONE;
            }
            if (!tokens.get(at).word().equals(";") || clauses[0] == 14) {
                return tokens.get(at).place();
            }
            at++;
        }
    }

    private static int[][] bounds(String word, World w) {
        int lastCell = w.slope.length - 1;
        int lastPlayer = w.players.size() - 1;
        switch (word) {
            case "patch": return new int[][] {{4, 9}};
            case "slope": return new int[][] {{0, lastCell}, {0, 4}};
            case "lay": return new int[][] {{0, lastCell}, {1, 20}};
            case "owe": return new int[][] {{0, lastPlayer}, {0, lastPlayer}, {0, 99}};
            case "even": return new int[0][];
            default: return KINDS.contains(word) && lastPlayer < 4 ? new int[][] {{0, 99}} : null;
        }
    }

    private static void obey(World w, String word, int[] n) {
        switch (word) {
            case "patch":
                w.slope = new int[n[0]];
                Arrays.fill(w.slope, 2);
                w.worth = new int[n[0]];
                w.players.clear();
                w.debt = new int[5][5];
                break;
            case "slope": w.slope[n[0]] = n[1]; break;
            case "lay": w.worth[n[0]] = n[1]; break;
            case "owe": w.debt[n[0]][n[1]] = n[2]; break;
            case "even": w.debt = new int[5][5]; break;
            default: w.players.add(new int[] {KINDS.indexOf(word), n[0]}); break;
        }
    }

    int fault() {
        return run(told.copy(), new int[1]);
    }

    int patch() {
        World w = told.copy();
        int[] clauses = new int[1];
        if (run(w, clauses) != NONE) {
            return NOT;
        }
        told = w;
        now = w.copy();
        seen.clear();
        past.clear();
        kept[0] = null;
        kept[1] = null;
        text.setLength(0);
        return clauses[0];
    }

    // ---- what is told

    private boolean noCell(int c) {
        return c < 0 || c >= now.slope.length;
    }

    private boolean noPlayer(int p) {
        return p < 0 || p >= now.players.size();
    }

    private int kind(int p) {
        return now.players.get(p)[0];
    }

    private int purse(int p) {
        return now.players.get(p)[1];
    }

    int cell(int c, int what) {
        if (noCell(c)) {
            return UNKNOWN;
        }
        return what == 0 ? now.slope[c] : what == 1 ? now.worth[c] : OUTSIDE;
    }

    int player(int p, int what) {
        if (noPlayer(p)) {
            return UNKNOWN;
        }
        if (what < 0 || what > 3) {
            return OUTSIDE;
        }
        int owes = Arrays.stream(now.debt[p]).sum();
        int owed = Arrays.stream(now.debt).mapToInt(row -> row[p]).sum();
        return new int[] {kind(p), purse(p), owes, owed}[what];
    }

    int debt(int p, int o) {
        return noPlayer(p) || noPlayer(o) || p == o ? UNKNOWN : now.debt[p][o];
    }

    int as(int p, int kind) {
        if (noPlayer(p)) {
            return UNKNOWN;
        }
        if (kind < 0 || kind > 4) {
            return OUTSIDE;
        }
        String such = new String[] {"01", "012", "013", "04"}[kind(p)];
        return such.indexOf('0' + kind) < 0 ? NOT : kind(p) == 3 ? 4 : 9;
    }

    // ---- shots

    /** Where it stops, by its own way through the cells. */
    private static int roll(int[] slope, int[] worth, int force) {
        int at = -1;
        while (force > 0 && at < slope.length) {
            at++;
            if (at < slope.length) {
                force = worth[at] > 0 ? 0 : force - 1 + (2 - slope[at]);
            }
        }
        return at;
    }

    private int hit(int stop) {
        return noCell(stop) ? 0 : now.worth[stop];
    }

    private int more(int p, int stop) {
        if (hit(stop) > 0) {
            return kind(p) == 3 ? hit(stop) / 2 : hit(stop);
        }
        return stop == NONE ? 0 : -1;
    }

    int shoot(int p, int force, int z) {
        if (noPlayer(p)) {
            return UNKNOWN;
        }
        if (force < 0 || force > 9 || z < 0 || z > 9999) {
            return OUTSIDE;
        }
        if (purse(p) == 0) {
            return NOT;
        }
        remember();
        BigInteger x = BigInteger.valueOf(7919L * z + 6151L * now.shots + 1);
        int draw = x.multiply(x).mod(BigInteger.valueOf(65521)).mod(BigInteger.valueOf(4)).intValue();
        int stop = roll(now.slope, now.worth, kind(p) == 1 ? shaken(force, draw) : force);
        if (kind(p) == 2 && stop == now.slope.length) {
            stop--;
        }
        now.players.get(p)[1] += more(p, stop);
        if (!noCell(stop)) {
            now.worth[stop] = now.worth[stop] > 0 ? 0 : 1;
        }
        now.shots++;
        return stop;
    }

    private static int shaken(int force, int draw) {
        return draw == 0 ? Math.max(0, force - 1) : draw == 3 ? force + 1 : force;
    }

    private void remember() {
        past.addLast(now.copy());
        if (past.size() > 8) {
            past.removeFirst();
        }
    }

    int pay(int p, int o, int n) {
        if (debt(p, o) == UNKNOWN) {
            return UNKNOWN;
        }
        if (n < 1 || n > 99) {
            return OUTSIDE;
        }
        if (n > now.debt[p][o] || n > purse(p)) {
            return NOT;
        }
        remember();
        now.players.get(p)[1] -= n;
        now.players.get(o)[1] += n;
        now.debt[p][o] -= n;
        return now.debt[p][o];
    }

    int undo() {
        if (past.isEmpty()) {
            return NOT;
        }
        now = past.removeLast();
        return past.size();
    }

    int keep(int k) {
        if (k < 0 || k > 1) {
            return UNKNOWN;
        }
        kept[k] = now.copy();
        return now.shots;
    }

    int back(int k) {
        if (k < 0 || k > 1) {
            return UNKNOWN;
        }
        if (kept[k] == null) {
            return NOT;
        }
        now = kept[k].copy();
        past.clear();
        return now.shots;
    }

    // ---- foretold

    int stop(int force, int what) {
        if (force < 0 || force > 9 || what < 0 || what > 1) {
            return OUTSIDE;
        }
        int stop = roll(now.slope, now.worth, force);
        return what == 0 ? stop : hit(stop);
    }

    /** The force told and its neighbours, with how many quarters each has. */
    private int[][] forces(int p, int force) {
        if (kind(p) != 1) {
            return new int[][] {{force, 4}};
        }
        return new int[][] {{Math.max(0, force - 1), 1}, {force, 2}, {force + 1, 1}};
    }

    int odds(int p, int force, int part) {
        if (noPlayer(p)) {
            return UNKNOWN;
        }
        if (force < 0 || force > 9 || part < 0 || part > 1) {
            return OUTSIDE;
        }
        int quarters = 0;
        for (int[] f : forces(p, force)) {
            quarters += hit(roll(now.slope, now.worth, f[0])) > 0 ? f[1] : 0;
        }
        return part(BigInteger.valueOf(quarters), BigInteger.valueOf(4), part).intValue();
    }

    int mean(int p, int force) {
        if (noPlayer(p)) {
            return UNKNOWN;
        }
        if (force < 0 || force > 9) {
            return OUTSIDE;
        }
        int sum = 9999;
        for (int[] f : forces(p, force)) {
            sum += f[1] * more(p, roll(now.slope, now.worth, f[0]));
        }
        return sum;
    }

    int best(int p, int what) {
        if (noPlayer(p)) {
            return UNKNOWN;
        }
        if (what < 0 || what > 1) {
            return OUTSIDE;
        }
        int best = 9;
        for (int force = 9; force >= 0; force--) {
            best = mean(p, force) >= mean(p, best) ? force : best;
        }
        return what == 0 ? best : mean(p, best);
    }

    int two(int what) {
        if (what < 0 || what > 1) {
            return OUTSIDE;
        }
        int best = 99;
        for (int forces = 99; forces >= 0; forces--) {
            best = twoHits(forces) >= twoHits(best) ? forces : best;
        }
        return what == 0 ? best : twoHits(best);
    }

    private int twoHits(int forces) {
        int[] worth = now.worth.clone();
        int sum = 0;
        for (int force : new int[] {forces / 10, forces % 10}) {
            int stop = roll(now.slope, worth, force);
            if (!noCell(stop)) {
                sum += worth[stop];
                worth[stop] = worth[stop] == 0 ? 1 : 0;
            }
        }
        return sum;
    }

    // ---- what was seen

    int seen(int force, int stop) {
        if (force < 0 || force > 9 || stop < NONE || stop > now.slope.length) {
            return OUTSIDE;
        }
        if (seen.size() == 6) {
            return FULL;
        }
        seen.add(new int[] {force, stop});
        return seen.size();
    }

    int forget() {
        int had = seen.size();
        seen.clear();
        return had;
    }

    int slopes(int c) {
        if (noCell(c)) {
            return UNKNOWN;
        }
        int bits = 0;
        for (int u = 0; u < 5; u++) {
            int[] slope = now.slope.clone();
            slope[c] = u;
            boolean fits = seen.stream().allMatch(s -> roll(slope, new int[slope.length], s[0]) == s[1]);
            bits += fits ? 1 << u : 0;
        }
        return bits;
    }

    // ---- debts, chances

    private static BigInteger part(BigInteger above, BigInteger below, int part) {
        BigInteger divisor = above.gcd(below);
        return (part == 0 ? above : below).divide(divisor);
    }

    /** Of p(i + 1) q = 10 p(i) - (10 - q) p(i - 1), p(0) 0 and p(1) unknown, all times a power of q. */
    long ruin(int a, int b, int q, int part) {
        if (a < 0 || a > 8 || b < 1 || b > 8 || b < a || q < 0 || q > 10 || part < 0 || part > 1) {
            return OUTSIDE;
        }
        if (a == b || q == 0) {
            return part == 1 || a == b ? 1 : 0;
        }
        BigInteger[] chance = new BigInteger[10];
        chance[0] = BigInteger.ZERO;
        chance[1] = BigInteger.valueOf(q).pow(20);
        for (int i = 1; i < b; i++) {
            BigInteger more = chance[i].multiply(BigInteger.TEN);
            BigInteger less = chance[i - 1].multiply(BigInteger.valueOf(10 - q));
            chance[i + 1] = more.subtract(less).divide(BigInteger.valueOf(q));
        }
        return part(chance[a], chance[b], part).longValueExact();
    }

    private int[] balances() {
        int[] balance = new int[now.players.size()];
        for (int p = 0; p < balance.length; p++) {
            balance[p] = player(p, 3) - player(p, 2);
        }
        return balance;
    }

    int netted() {
        return settle(balances(), 0);
    }

    /** The first one who is not even pays, or is paid, all of it by each of the others in turn. */
    private static int settle(int[] balance, int from) {
        int first = from;
        while (first < balance.length && balance[first] == 0) {
            first++;
        }
        if (first == balance.length) {
            return 0;
        }
        int fewest = Integer.MAX_VALUE;
        for (int other = first + 1; other < balance.length; other++) {
            if (Integer.signum(balance[other]) == -Integer.signum(balance[first])) {
                balance[other] += balance[first];
                fewest = Math.min(fewest, 1 + settle(balance, first + 1));
                balance[other] -= balance[first];
            }
        }
        return fewest;
    }

    int ring(int p) {
        if (noPlayer(p)) {
            return UNKNOWN;
        }
        int shortest = wayTo(p, p, 0);
        return shortest > 5 ? NONE : shortest;
    }

    private int wayTo(int from, int to, int used) {
        int shortest = 99;
        for (int next = 0; next < now.players.size(); next++) {
            if (now.debt[from][next] > 0 && (used >> next & 1) == 0) {
                int way = next == to ? 1 : 1 + wayTo(next, to, used | 1 << next);
                shortest = Math.min(shortest, way);
            }
        }
        return shortest;
    }

    int poor() {
        int[] balance = balances();
        int bits = 0;
        for (int p = 0; p < balance.length; p++) {
            bits += purse(p) + balance[p] < 0 ? 1 << p : 0;
        }
        return bits;
    }

    int rain(int n, int k, int q, int part) {
        if (n < 0 || n > 6 || k < 0 || k > 6 || q < 0 || q > 10 || part < 0 || part > 1) {
            return OUTSIDE;
        }
        long above = 0;
        for (int days = 0; days < 1 << n; days++) {
            long product = Integer.bitCount(days) >= k ? 1 : 0;
            for (int day = 0; day < n; day++) {
                product *= (days >> day & 1) == 1 ? q : 10 - q;
            }
            above += product;
        }
        return part(BigInteger.valueOf(above), BigInteger.TEN.pow(n), part).intValueExact();
    }

    int count(int what) {
        switch (what) {
            case 0: return now.slope.length;
            case 1: return now.players.size();
            case 2: return now.shots;
            case 3: return bitsOfMarbles();
            case 4: return Arrays.stream(now.worth).sum();
            case 5: return now.players.stream().mapToInt(p -> p[1]).sum();
            case 6: return Arrays.stream(now.debt).mapToInt(row -> Arrays.stream(row).sum()).sum();
            case 7: return seen.size();
            case 8: return past.size();
            case 9: return text.length();
            default: return OUTSIDE;
        }
    }

    private int bitsOfMarbles() {
        int bits = 0;
        for (int c = 0; c < now.worth.length; c++) {
            bits += now.worth[c] > 0 ? 1 << c : 0;
        }
        return bits;
    }
}
