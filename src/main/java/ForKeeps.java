import java.util.Arrays;

/** A patch of marbles played for keeps, as DOC.md tells it. */
public final class ForKeeps {
    public static final int NONE = -1, UNKNOWN = -2, OUTSIDE = -3, NOT = -4, FULL = -5;

    private static final int MOST_CELLS = 9;
    private static final int MOST_PLAYERS = 5;
    private static final int MOST_PURSE = 999;
    private static final int MOST_SHOTS = 999;
    private static final int MOST_FORCE = 9;
    private static final int DRAWS = 4;
    private static final int TEN = 10;
    /** Added to what may be below 0, so that it is never taken for a refusal. */
    private static final int ABOVE_ALL_LOSS = 9999;

    /** What the texts told: a new text starts from it again, whatever was shot or paid since. */
    private final Patch told = new Patch();
    private final Patch now = new Patch();
    private final Patch kept0 = new Patch();
    private final Patch kept1 = new Patch();
    private boolean isKept0;
    private boolean isKept1;
    /** A patch on which shots are only thought of. */
    private final Patch trial = new Patch();
    private final Past past = new Past();
    private final Sight sight = new Sight();
    private final Text text = new Text();
    private final Thumb steady = new Steady();
    private final Thumb shaky = new Shaky();
    private final Thumb lucky = new Lucky();
    private final Thumb bank = new Bank();
    /** For each set of players, by bits: the most groups in it that come out even by themselves. */
    private final int[] groups = new int[1 << MOST_PLAYERS];

    public ForKeeps() {
    }

    // ---- what is told

    public int write(int letter) {
        if (letter < 0 || letter > 255) {
            return OUTSIDE;
        }
        return text.add((char) letter) ? text.length : FULL;
    }

    public int erase() {
        int had = text.length;
        text.length = 0;
        return had;
    }

    public int fault() {
        return text.read(told.cells, told.players);
    }

    public int patch() {
        if (text.read(told.cells, told.players) != NONE) {
            return NOT;
        }
        for (int i = 0; i < text.clauses; i++) {
            told.tell(text.verbOf(i), text.number(i, 0), text.number(i, 1), text.number(i, 2));
        }
        now.become(told);
        past.size = 0;
        sight.size = 0;
        isKept0 = false;
        isKept1 = false;
        text.length = 0;
        return text.clauses;
    }

    public int cell(int cell, int what) {
        if (!now.hasCell(cell)) {
            return UNKNOWN;
        }
        switch (what) {
            case 0: return now.slope[cell];
            case 1: return now.worth[cell];
            default: return OUTSIDE;
        }
    }

    public int player(int player, int what) {
        if (!now.hasPlayer(player)) {
            return UNKNOWN;
        }
        switch (what) {
            case 0: return now.kind[player];
            case 1: return now.purse[player];
            case 2: return now.owesInAll(player);
            case 3: return now.isOwedInAll(player);
            default: return OUTSIDE;
        }
    }

    public int debt(int player, int other) {
        return now.hasPair(player, other) ? now.owes(player, other) : UNKNOWN;
    }

    public int as(int player, int kind) {
        if (!now.hasPlayer(player)) {
            return UNKNOWN;
        }
        if (kind < 0 || kind > 4) {
            return OUTSIDE;
        }
        Thumb thumb = thumbOf(player);
        return isSuch(thumb, kind) ? thumb.share(9) : NOT;
    }

    // ---- shots

    public int shoot(int player, int force, int z) {
        if (!now.hasPlayer(player)) {
            return UNKNOWN;
        }
        if (!isForce(force) || z < 0 || z > 9999) {
            return OUTSIDE;
        }
        if (now.purse[player] < 1) {
            return NOT;
        }
        if (now.shots >= MOST_SHOTS) {
            return FULL;
        }
        past.add(now);
        Thumb thumb = thumbOf(player);
        int rolled = now.roll(thumb.shaken(force, draw(z, now.shots)));
        int stop = thumb.rest(rolled, now.cells);
        now.gain(player, thumb.change(stop, now.land(stop)));
        now.shots++;
        return stop;
    }

    public int pay(int player, int other, int n) {
        if (!now.hasPair(player, other)) {
            return UNKNOWN;
        }
        if (n < 1 || n > 99) {
            return OUTSIDE;
        }
        if (n > now.owes(player, other) || n > now.purse[player]) {
            return NOT;
        }
        past.add(now);
        now.gain(player, -n);
        now.gain(other, n);
        now.owe(player, other, now.owes(player, other) - n);
        return now.owes(player, other);
    }

    public int undo() {
        if (past.size == 0) {
            return NOT;
        }
        past.takeLatest(now);
        return past.size;
    }

    public int keep(int k) {
        if (k == 0) {
            kept0.become(now);
            isKept0 = true;
        } else if (k == 1) {
            kept1.become(now);
            isKept1 = true;
        } else {
            return UNKNOWN;
        }
        return now.shots;
    }

    public int back(int k) {
        if (k != 0 && k != 1) {
            return UNKNOWN;
        }
        if (k == 0 ? !isKept0 : !isKept1) {
            return NOT;
        }
        now.become(k == 0 ? kept0 : kept1);
        past.size = 0;
        return now.shots;
    }

    // ---- foretold

    public int stop(int force, int what) {
        if (!isForce(force) || !isZeroOrOne(what)) {
            return OUTSIDE;
        }
        int stop = now.roll(force);
        return what == 0 ? stop : now.worthAt(stop);
    }

    public int odds(int player, int force, int part) {
        if (!now.hasPlayer(player)) {
            return UNKNOWN;
        }
        if (!isForce(force) || !isZeroOrOne(part)) {
            return OUTSIDE;
        }
        Thumb thumb = thumbOf(player);
        int hits = 0;
        for (int draw = 0; draw < DRAWS; draw++) {
            if (now.worthAt(now.roll(thumb.shaken(force, draw))) > 0) {
                hits++;
            }
        }
        return (int) partOf(hits, DRAWS, part);
    }

    public int mean(int player, int force) {
        if (!now.hasPlayer(player)) {
            return UNKNOWN;
        }
        if (!isForce(force)) {
            return OUTSIDE;
        }
        return quarters(thumbOf(player), force) + ABOVE_ALL_LOSS;
    }

    public int best(int player, int what) {
        if (!now.hasPlayer(player)) {
            return UNKNOWN;
        }
        if (!isZeroOrOne(what)) {
            return OUTSIDE;
        }
        Thumb thumb = thumbOf(player);
        int bestForce = 0;
        int most = quarters(thumb, 0);
        for (int force = 1; force <= MOST_FORCE; force++) {
            int here = quarters(thumb, force);
            if (here > most) {
                most = here;
                bestForce = force;
            }
        }
        return what == 0 ? bestForce : most + ABOVE_ALL_LOSS;
    }

    public int two(int what) {
        if (!isZeroOrOne(what)) {
            return OUTSIDE;
        }
        int bestForces = 0;
        int most = 0;
        for (int first = 0; first <= MOST_FORCE; first++) {
            trial.become(now);
            int hit = trial.land(trial.roll(first));
            for (int second = 0; second <= MOST_FORCE; second++) {
                int both = hit + trial.worthAt(trial.roll(second));
                if (both > most) {
                    most = both;
                    bestForces = TEN * first + second;
                }
            }
        }
        return what == 0 ? bestForces : most;
    }

    // ---- what was seen

    public int seen(int force, int stop) {
        boolean isStop = stop == NONE || stop == now.cells || now.hasCell(stop);
        if (!isForce(force) || !isStop) {
            return OUTSIDE;
        }
        return sight.add(force, stop) ? sight.size : FULL;
    }

    public int forget() {
        int had = sight.size;
        sight.size = 0;
        return had;
    }

    public int slopes(int cell) {
        if (!now.hasCell(cell)) {
            return UNKNOWN;
        }
        trial.become(now);
        trial.clearMarbles();
        int bits = 0;
        for (int slope = 0; slope <= Patch.STEEPEST; slope++) {
            trial.slope[cell] = slope;
            if (sight.fits(trial)) {
                bits |= 1 << slope;
            }
        }
        return bits;
    }

    // ---- debts, chances

    public long ruin(int a, int b, int q, int part) {
        if (a < 0 || a > b || b < 1 || b > 8 || !isOfTen(q) || !isZeroOrOne(part)) {
            return OUTSIDE;
        }
        int lost = TEN - q;
        if (lost == q) {
            return partOf(a, b, part);
        }
        // (1 - r^a) / (1 - r^b) with r = lost / q, above and below times q^b: nothing is divided by a q of 0
        long above = power(q, b - a) * Math.abs(power(q, a) - power(lost, a));
        long below = Math.abs(power(q, b) - power(lost, b));
        return partOf(above, below, part);
    }

    public int netted() {
        int sets = 1 << now.players;
        for (int set = 1; set < sets; set++) {
            groups[set] = evenGroups(set);
        }
        // a group that comes out even needs one payment less than it has players
        return now.players - groups[sets - 1];
    }

    public int ring(int player) {
        if (!now.hasPlayer(player)) {
            return UNKNOWN;
        }
        int reached = 1 << player;
        for (int debts = 1; debts <= now.players; debts++) {
            reached = now.owedByAny(reached);
            if (isIn(player, reached)) {
                return debts;
            }
        }
        return NONE;
    }

    public int poor() {
        int bits = 0;
        for (int p = 0; p < now.players; p++) {
            if (-now.balance(p) > now.purse[p]) {
                bits |= 1 << p;
            }
        }
        return bits;
    }

    public int rain(int n, int k, int q, int part) {
        if (n < 0 || n > 6 || k < 0 || k > 6 || !isOfTen(q) || !isZeroOrOne(part)) {
            return OUTSIDE;
        }
        long above = 0;
        for (int wet = k; wet <= n; wet++) {
            above += ways(n, wet) * power(q, wet) * power(TEN - q, n - wet);
        }
        return (int) partOf(above, power(TEN, n), part);
    }

    public int count(int what) {
        switch (what) {
            case 0: return now.cells;
            case 1: return now.players;
            case 2: return now.shots;
            case 3: return now.marbles();
            case 4: return total(now.worth);
            case 5: return total(now.purse);
            case 6: return total(now.debts);
            case 7: return sight.size;
            case 8: return past.size;
            case 9: return text.length;
            default: return OUTSIDE;
        }
    }

    // ---- what the calls share

    private static boolean isForce(int force) {
        return force >= 0 && force <= MOST_FORCE;
    }

    private static boolean isZeroOrOne(int number) {
        return number == 0 || number == 1;
    }

    private static boolean isOfTen(int q) {
        return q >= 0 && q <= TEN;
    }

    private Thumb thumbOf(int player) {
        switch (now.kind[player]) {
            case 1: return shaky;
            case 2: return lucky;
            case 3: return bank;
            default: return steady;
        }
    }

    private static boolean isSuch(Thumb thumb, int kind) {
        switch (kind) {
            case 0: return true;
            case 1: return thumb instanceof Steady;
            case 2: return thumb instanceof Shaky;
            case 3: return thumb instanceof Lucky;
            case 4: return thumb instanceof Bank;
            default: return false;
        }
    }

    private static int draw(int z, int shots) {
        long x = 7919L * z + 6151L * shots + 1;
        return (int) (x * x % 65521 % DRAWS);
    }

    /** The mean in quarters: each draw is a quarter, so a shaky one's halves come of themselves. */
    private int quarters(Thumb thumb, int force) {
        int sum = 0;
        for (int draw = 0; draw < DRAWS; draw++) {
            int stop = now.roll(thumb.shaken(force, draw));
            sum += thumb.change(stop, now.worthAt(stop));
        }
        return sum;
    }

    private static boolean isIn(int player, int set) {
        return (set >> player & 1) == 1;
    }

    /** By one player less there are as many, and one more if all together come out even. */
    private int evenGroups(int set) {
        int sum = 0;
        int most = 0;
        for (int p = 0; p < now.players; p++) {
            if (isIn(p, set)) {
                sum += now.balance(p);
                most = Math.max(most, groups[set ^ (1 << p)]);
            }
        }
        return sum == 0 ? most + 1 : most;
    }

    private static int total(int[] numbers) {
        int sum = 0;
        for (int number : numbers) {
            sum += number;
        }
        return sum;
    }

    private static long power(int base, int times) {
        long product = 1;
        for (int i = 0; i < times; i++) {
            product *= base;
        }
        return product;
    }

    /** In how many ways k of n can be chosen. */
    private static long ways(int n, int k) {
        long ways = 1;
        for (int i = 1; i <= k; i++) {
            ways = ways * (n - k + i) / i;
        }
        return ways;
    }

    private static long partOf(long above, long below, int part) {
        long divisor = commonDivisor(above, below);
        long whole = part == 0 ? above : below;
        return divisor == 0 ? whole : whole / divisor;
    }

    private static long commonDivisor(long a, long b) {
        long larger = a;
        long smaller = b;
        // numbers of 64 bits take fewer than 100 steps
        for (int i = 0; i < 100 && smaller != 0; i++) {
            long rest = larger % smaller;
            larger = smaller;
            smaller = rest;
        }
        return larger;
    }

    /** Cells, players and debts: as told, as they are, or as they were. */
    private static final class Patch {
        static final int LEVEL = 2;
        static final int STEEPEST = 4;

        int cells = 6;
        int players;
        int shots;
        final int[] slope = new int[MOST_CELLS];
        /** 0: no marble lies there. Behind the last cell and the last player all is 0, so that sums need no bounds. */
        final int[] worth = new int[MOST_CELLS];
        final int[] kind = new int[MOST_PLAYERS];
        final int[] purse = new int[MOST_PLAYERS];
        final int[] debts = new int[MOST_PLAYERS * MOST_PLAYERS];

        Patch() {
            Arrays.fill(slope, LEVEL);
        }

        void become(Patch other) {
            cells = other.cells;
            players = other.players;
            shots = other.shots;
            System.arraycopy(other.slope, 0, slope, 0, MOST_CELLS);
            System.arraycopy(other.worth, 0, worth, 0, MOST_CELLS);
            System.arraycopy(other.kind, 0, kind, 0, MOST_PLAYERS);
            System.arraycopy(other.purse, 0, purse, 0, MOST_PLAYERS);
            System.arraycopy(other.debts, 0, debts, 0, MOST_PLAYERS * MOST_PLAYERS);
        }

        boolean hasCell(int cell) {
            return cell >= 0 && cell < cells;
        }

        boolean hasPlayer(int player) {
            return player >= 0 && player < players;
        }

        boolean hasPair(int player, int other) {
            return hasPlayer(player) && hasPlayer(other) && player != other;
        }

        void tell(int verb, int a, int b, int c) {
            switch (verb) {
                case Text.PATCH: begin(a); break;
                case Text.SLOPE: tilt(a, b); break;
                case Text.LAY: lay(a, b); break;
                case Text.OWE: owe(a, b, c); break;
                case Text.EVEN: Arrays.fill(debts, 0); break;
                default: join(verb - Text.STEADY, a); break;
            }
        }

        void begin(int n) {
            cells = n;
            players = 0;
            Arrays.fill(slope, LEVEL);
            clearMarbles();
            Arrays.fill(purse, 0);
            Arrays.fill(debts, 0);
        }

        void clearMarbles() {
            Arrays.fill(worth, 0);
        }

        void tilt(int cell, int to) {
            if (hasCell(cell)) {
                slope[cell] = to;
            }
        }

        void lay(int cell, int of) {
            if (hasCell(cell)) {
                worth[cell] = of;
            }
        }

        void join(int asKind, int withPurse) {
            if (players < MOST_PLAYERS) {
                kind[players] = asKind;
                purse[players] = withPurse;
                players++;
            }
        }

        void owe(int player, int other, int n) {
            if (hasPair(player, other)) {
                debts[player * MOST_PLAYERS + other] = n;
            }
        }

        int owes(int player, int other) {
            return hasPair(player, other) ? debts[player * MOST_PLAYERS + other] : 0;
        }

        int owesInAll(int player) {
            int sum = 0;
            for (int other = 0; other < players; other++) {
                sum += owes(player, other);
            }
            return sum;
        }

        int isOwedInAll(int player) {
            int sum = 0;
            for (int other = 0; other < players; other++) {
                sum += owes(other, player);
            }
            return sum;
        }

        int balance(int player) {
            return isOwedInAll(player) - owesInAll(player);
        }

        int owedByAny(int set) {
            int bits = 0;
            for (int p = 0; p < players; p++) {
                for (int other = 0; other < players; other++) {
                    if (isIn(p, set) && owes(p, other) > 0) {
                        bits |= 1 << other;
                    }
                }
            }
            return bits;
        }

        void gain(int player, int n) {
            if (hasPlayer(player)) {
                purse[player] = Math.min(MOST_PURSE, purse[player] + n);
            }
        }

        int marbles() {
            int bits = 0;
            for (int c = 0; c < cells; c++) {
                if (worth[c] > 0) {
                    bits |= 1 << c;
                }
            }
            return bits;
        }

        int worthAt(int stop) {
            return hasCell(stop) ? worth[stop] : 0;
        }

        int roll(int force) {
            int left = force;
            int at = NONE;
            for (int c = 0; c < cells; c++) {
                if (left <= 0) {
                    return at;
                }
                at = c;
                if (worth[c] > 0) {
                    return at;
                }
                left += LEVEL - slope[c] - 1;
            }
            return left > 0 ? cells : at;
        }

        /** What is hit there goes, else the marble that comes stays: the worth of what it hits. */
        int land(int stop) {
            int hit = worthAt(stop);
            lay(stop, hit > 0 ? 0 : 1);
            return hit;
        }
    }

    /** The row of letters, and its clauses as they were read last. */
    private static final class Text {
        static final int MOST_LETTERS = 160;
        static final int MOST_CLAUSES = 14;
        static final int MOST_NUMBERS = 3;
        static final int PATCH = 0, SLOPE = 1, LAY = 2, STEADY = 3, SHAKY = 4, LUCKY = 5, BANK = 6, OWE = 7, EVEN = 8;

        int length;
        int clauses;
        private final char[] letters = new char[MOST_LETTERS];
        private final int[] verbs = new int[MOST_CLAUSES];
        private final int[] numbers = new int[MOST_CLAUSES * MOST_NUMBERS];
        /** The token that is read: from its first letter to behind its last one. */
        private int from;
        private int to;
        /** How many there will be when the clauses read so far are done: they bound the next one's numbers. */
        private int cells;
        private int players;

        boolean add(char letter) {
            if (length >= MOST_LETTERS) {
                return false;
            }
            letters[length] = letter;
            length++;
            return true;
        }

        int verbOf(int clause) {
            return clause >= 0 && clause < MOST_CLAUSES ? verbs[clause] : EVEN;
        }

        int number(int clause, int i) {
            boolean isThere = clause >= 0 && clause < MOST_CLAUSES && i >= 0 && i < MOST_NUMBERS;
            return isThere ? numbers[clause * MOST_NUMBERS + i] : 0;
        }

        /** Reads the clauses; the place of the fault, or NONE. */
        int read(int cellsAtFirst, int playersAtFirst) {
            cells = cellsAtFirst;
            players = playersAtFirst;
            clauses = 0;
            to = 0;
            for (int clause = 0; clause < MOST_CLAUSES; clause++) {
                if (!readClause(clause)) {
                    return from;
                }
                step();
                if (from >= length) {
                    clauses = clause + 1;
                    return NONE;
                }
                if (letters[from] != ';') {
                    return from;
                }
            }
            // no clause may follow the last one, so the ; behind it cannot stand there
            return from;
        }

        /** Whether it stands; if not, the token that is read is where its fault is. */
        private boolean readClause(int clause) {
            step();
            int verb = verbHere();
            if (verb == NONE || isPlayer(verb) && players >= MOST_PLAYERS) {
                return false;
            }
            verbs[clause] = verb;
            int start = clause * MOST_NUMBERS;
            for (int i = 0; i < numbersOf(verb); i++) {
                step();
                int number = numberHere();
                boolean isHimself = verb == OWE && i == 1 && number == numbers[start];
                if (number < lowest(verb, i) || number > highest(verb, i) || isHimself) {
                    return false;
                }
                numbers[start + i] = number;
            }
            if (verb == PATCH) {
                cells = numbers[start];
                players = 0;
            } else if (isPlayer(verb)) {
                players++;
            }
            return true;
        }

        /** Goes on to the next token; at the end it is empty and begins at the length. */
        private void step() {
            from = to;
            while (from < length && letters[from] == ' ') {
                from++;
            }
            to = from;
            if (from < length) {
                int sort = sortOf(letters[from]);
                to++;
                while (sort != 0 && to < length && sortOf(letters[to]) == sort) {
                    to++;
                }
            }
        }

        /** Letters of one sort make a row; those of sort 0 stand alone. */
        private static int sortOf(char letter) {
            if (letter >= 'a' && letter <= 'z') {
                return 1;
            }
            return letter >= '0' && letter <= '9' ? 2 : 0;
        }

        private int verbHere() {
            for (int verb = PATCH; verb <= EVEN; verb++) {
                if (isHere(wordOf(verb))) {
                    return verb;
                }
            }
            return NONE;
        }

        private boolean isHere(String word) {
            if (word.length() != to - from) {
                return false;
            }
            for (int i = 0; i < word.length(); i++) {
                if (letters[from + i] != word.charAt(i)) {
                    return false;
                }
            }
            return true;
        }

        /** The token's number; NONE, which is below all bounds, if it is no number of 1 or 2 digits. */
        private int numberHere() {
            int digits = to - from;
            if (digits < 1 || digits > 2 || sortOf(letters[from]) != 2) {
                return NONE;
            }
            int number = 0;
            for (int i = from; i < to; i++) {
                number = number * TEN + letters[i] - '0';
            }
            return number;
        }

        private static String wordOf(int verb) {
            switch (verb) {
                case PATCH: return "patch";
                case SLOPE: return "slope";
                case LAY: return "lay";
                case STEADY: return "steady";
                case SHAKY: return "shaky";
                case LUCKY: return "lucky";
                case BANK: return "bank";
                case OWE: return "owe";
                default: return "even";
            }
        }

        private static boolean isPlayer(int verb) {
            return verb >= STEADY && verb <= BANK;
        }

        private static int numbersOf(int verb) {
            switch (verb) {
                case EVEN: return 0;
                case SLOPE: return 2;
                case LAY: return 2;
                case OWE: return 3;
                default: return 1;
            }
        }

        private static int lowest(int verb, int i) {
            if (verb == PATCH) {
                return 4;
            }
            return verb == LAY && i == 1 ? 1 : 0;
        }

        private int highest(int verb, int i) {
            switch (verb) {
                case PATCH: return MOST_CELLS;
                case SLOPE: return i == 0 ? cells - 1 : Patch.STEEPEST;
                case LAY: return i == 0 ? cells - 1 : 20;
                case OWE: return i < 2 ? players - 1 : 99;
                default: return 99;
            }
        }
    }

    /** How it was before each of the latest shots and payments. */
    private static final class Past {
        static final int MOST = 8;

        int size;
        private int newest;
        /** Each is made when it is first needed, and used again then. */
        private final Patch[] before = new Patch[MOST];

        void add(Patch patch) {
            newest = (newest + 1) % MOST;
            Patch here = before[newest];
            if (here == null) {
                here = new Patch();
                before[newest] = here;
            }
            here.become(patch);
            size = Math.min(MOST, size + 1);
        }

        void takeLatest(Patch into) {
            Patch latest = before[newest];
            if (size > 0 && latest != null) {
                into.become(latest);
                newest = (newest + MOST - 1) % MOST;
                size--;
            }
        }
    }

    /** Where marbles were seen to stop. */
    private static final class Sight {
        static final int MOST = 6;

        int size;
        private final int[] forces = new int[MOST];
        private final int[] stops = new int[MOST];

        boolean add(int force, int stop) {
            if (size >= MOST) {
                return false;
            }
            forces[size] = force;
            stops[size] = stop;
            size++;
            return true;
        }

        boolean fits(Patch patch) {
            for (int i = 0; i < size; i++) {
                if (patch.roll(forces[i]) != stops[i]) {
                    return false;
                }
            }
            return true;
        }
    }

    /** A player's kind: what its shots do otherwise than others'. */
    private abstract static class Thumb {
        /** The force that comes of the one told, by the draw. */
        int shaken(int force, int draw) {
            return force;
        }

        /** Where a marble rests that rolled to a stop. */
        int rest(int stop, int cells) {
            return stop;
        }

        /** What he has of a marble that he hits. */
        abstract int share(int worth);

        /** What he has more by a shot that stopped there and hit that worth. */
        final int change(int stop, int hit) {
            if (hit > 0) {
                return share(hit);
            }
            return stop == NONE ? 0 : -1;
        }
    }

    private static class Steady extends Thumb {
        int share(int worth) {
            return worth;
        }
    }

    private static final class Shaky extends Steady {
        int shaken(int force, int draw) {
            if (draw == 0) {
                return Math.max(0, force - 1);
            }
            return draw == DRAWS - 1 ? force + 1 : force;
        }
    }

    private static final class Lucky extends Steady {
        int rest(int stop, int cells) {
            return stop == cells ? cells - 1 : stop;
        }
    }

    private static final class Bank extends Thumb {
        int share(int worth) {
            return worth / 2;
        }
    }
}
