/**
 * A store with local repair groups: DATA and PARITIES over them in a field of 16 numbers.
 * The words in capitals are the document's.
 */
public final class RepairGroups {
    public static final int NONE = -1, BAD = -2, STATE = -3, FULL = -4;
    public static final long NO = Long.MIN_VALUE;

    private static final int NOTHING = -11, CAST = -12, PLACE = -13, SIZE = -14;
    private static final int ABSENT = -5;
    private static final int FAULT_BASE = -10;
    private static final int RAN_OUT = 100;

    private static final int MOST_DATA = 5, MOST_PARITIES = 5, MOST_NODES = 10;
    private static final int MOST_SEEN = 5, MOST_STEPS = 10, MOST_BOOKED = 8;
    private static final int MOST_READS = 9999;
    private static final int ROW_PARTS = 4;

    private static final int NEAR = 1, FAR = 2, BUSY = 3, CACHED = 4, DEEP = 5, TOLD = 6;
    /** The KIND that each KIND stands under. */
    private static final int[] ABOVE = {-1, 0, 0, 0, NEAR, FAR, BUSY};

    private static final int STEP_LOSE = 0, STEP_REPAIR = 1, STEP_CHEAPEN = 2;

    private final Numbers numbers;
    private final FormText text;
    private final Ranks ranks;
    private final Helps helps;
    private final Store now;
    private final Store kept;
    private boolean isKept;
    /** What a PLAN is played on. */
    private final Nodes trial;
    /** What all NODES in SEEN, together, tell. */
    private final Span known;
    private final Chooser chooser;
    private final Tapes tapes;

    public RepairGroups() {
        numbers = new Numbers();
        text = new FormText();
        ranks = new Ranks(numbers);
        helps = new Helps(ranks);
        now = new Store();
        kept = new Store();
        isKept = false;
        trial = new Nodes();
        known = new Span(numbers);
        chooser = new Chooser(numbers);
        tapes = new Tapes();
    }

    // ---- the field.

    public int field(int poly) {
        if (poly < 16 || poly > 31 || !Numbers.isField(poly)) {
            return BAD;
        }
        if (now.nodes.size > 0) {
            return STATE;
        }
        numbers.choose(poly);
        return numbers.generator;
    }

    public int calc(int what, int a, int b) {
        if (what < 0 || what > 5) {
            return NONE;
        }
        if (!canCalc(what, a, b)) {
            return BAD;
        }
        switch (what) {
            case 0:
                return a ^ b;
            case 1:
                return numbers.product(a, b);
            case 2:
                return numbers.product(a, numbers.inverse(b));
            case 3:
                return numbers.power(a, b);
            case 4:
                return numbers.power(numbers.generator, a);
            default:
                return numbers.logarithm(a);
        }
    }

    private static boolean canCalc(int what, int a, int b) {
        switch (what) {
            case 0:
            case 1:
                return isNumber(a) && isNumber(b);
            case 2:
                return isNumber(a) && isNumber(b) && b != 0;
            case 3:
                return isNumber(a) && b >= 0 && b <= 99;
            case 4:
                return a >= 0 && a <= 14;
            default:
                return isNumber(a) && a != 0;
        }
    }

    /** Whether it is one of THE FIELD; SYMBOLS are these numbers too. */
    private static boolean isNumber(int number) {
        return number >= 0 && number <= 15;
    }

    // ---- nodes.

    public int data(int kind, int v) {
        if (!isKind(kind)) {
            return NONE;
        }
        if (!isDigit(v)) {
            return BAD;
        }
        if (now.nodes.dataSize >= MOST_DATA) {
            return FULL;
        }
        int node = now.nodes.addData(kind, v);
        ranks.extend(now.nodes, node);
        return node;
    }

    public int feed(int sign) {
        if (sign < 0 || sign > 127) {
            return BAD;
        }
        return text.add(sign) ? text.size : FULL;
    }

    public int parity(int kind, int v) {
        if (!isKind(kind)) {
            return NONE;
        }
        if (!isDigit(v)) {
            return BAD;
        }
        if (now.nodes.size - now.nodes.dataSize >= MOST_PARITIES) {
            return FULL;
        }
        boolean isForm = text.parse(numbers);
        text.size = 0;
        if (!isForm) {
            return FAULT_BASE - text.place;
        }
        if (now.nodes.needsMissing(text.form)) {
            return STATE;
        }
        int node = now.nodes.addParity(kind, v, text.form);
        ranks.extend(now.nodes, node);
        return node;
    }

    private static boolean isKind(int kind) {
        return kind >= 0 && kind < ABOVE.length;
    }

    private static boolean isDigit(int v) {
        return v >= 0 && v <= 9;
    }

    public int row(int node, int part, int n) {
        if (!now.nodes.has(node) || part < 0 || part >= ROW_PARTS) {
            return NONE;
        }
        if (!isDigit(n)) {
            return BAD;
        }
        if (now.nodes.kinds[node] != TOLD) {
            return STATE;
        }
        int was = now.nodes.rows[node][part];
        now.nodes.rows[node][part] = n;
        return was;
    }

    public int of(int node, int what) {
        Nodes nodes = now.nodes;
        if (!nodes.has(node)) {
            return NONE;
        }
        switch (what) {
            case 0:
                return nodes.kinds[node];
            case 1:
                return nodes.vs[node];
            case 2:
                return nodes.dataOf[node];
            case 3:
                return nodes.reads[node];
            case 4:
                return nodes.costOf(node);
            case 5:
                return nodes.isMissing(node) ? ABSENT : nodes.symbolOf(numbers, node);
            case 6:
                return helps.helpOf(nodes, node);
            case 7:
                return nodes.costsOf(helps.helpOf(nodes, node));
            case 8:
                return fewestTellers(node);
            default:
                return what >= 10 && what < 10 + MOST_DATA ? numberAt(nodes.forms[node], what - 10) : NONE;
        }
    }

    /** LOCAL. */
    private int fewestTellers(int node) {
        int others = now.nodes.everyone() & ~(1 << node);
        int fewest = ABSENT;
        for (int set = 0; set <= others; set++) {
            int size = Integer.bitCount(set);
            boolean isFewer = fewest == ABSENT || size < fewest;
            if ((set & ~others) == 0 && isFewer && ranks.tells(set, node)) {
                fewest = size;
            }
        }
        return fewest;
    }

    /** The number at a place of a row of numbers that is held four bits a number. */
    private static int numberAt(int row, int place) {
        return (row >>> (4 * place)) & 15;
    }

    public int write(int data, int symbol) {
        Nodes nodes = now.nodes;
        if (data < 0 || data >= nodes.dataSize) {
            return NONE;
        }
        if (!isNumber(symbol)) {
            return BAD;
        }
        if (nodes.isDataMissing(data)) {
            return STATE;
        }
        int was = nodes.written[data];
        nodes.written[data] = symbol;
        return was;
    }

    public int lose(int node) {
        if (!now.nodes.has(node)) {
            return NONE;
        }
        if (now.nodes.isMissing(node)) {
            return STATE;
        }
        now.nodes.missing |= 1 << node;
        return now.nodes.symbolOf(numbers, node);
    }

    public int repair(int node) {
        if (!now.nodes.has(node)) {
            return NONE;
        }
        if (helps.bringBack(now.nodes, node) == ABSENT) {
            return STATE;
        }
        return now.nodes.symbolOf(numbers, node);
    }

    // ---- what tells what.

    public int told(int what) {
        Nodes nodes = now.nodes;
        switch (what) {
            case 0:
                return numbers.poly;
            case 1:
                return numbers.generator;
            case 2:
                return nodes.missing;
            case 3:
                return missingWithHelp();
            case 4:
                return ranks.rankOf(nodes.there());
            case 5:
                return tellAllData(nodes.there()) ? 1 : 0;
            case 6:
                return distance();
            default:
                return NONE;
        }
    }

    private int missingWithHelp() {
        Nodes nodes = now.nodes;
        int helped = 0;
        for (int node = 0; node < nodes.size; node++) {
            if (nodes.isMissing(node) && ranks.tells(nodes.there(), node)) {
                helped |= 1 << node;
            }
        }
        return helped;
    }

    private boolean tellAllData(int set) {
        return ranks.rankOf(set | now.nodes.dataSet) == ranks.rankOf(set);
    }

    private int distance() {
        if (now.nodes.dataSize == 0) {
            return ABSENT;
        }
        for (int e = 0; e <= now.nodes.size; e++) {
            if (safeSets(e) != allSets(e)) {
                return e;
            }
        }
        return ABSENT;
    }

    /** COUNT of e. */
    private int safeSets(int e) {
        int everyone = now.nodes.everyone();
        int safe = 0;
        for (int lost = 0; lost <= everyone; lost++) {
            if (Integer.bitCount(lost) == e && tellAllData(everyone & ~lost)) {
                safe++;
            }
        }
        return safe;
    }

    /** How many sets of e NODES there are. */
    private int allSets(int e) {
        int sets = 1;
        for (int i = 0; i < e; i++) {
            sets = sets * (now.nodes.size - i) / (i + 1);
        }
        return sets;
    }

    public int rank(int set) {
        return set < 0 || set > now.nodes.everyone() ? NONE : ranks.rankOf(set);
    }

    public int safe(int e) {
        return isSetSize(e) ? safeSets(e) : BAD;
    }

    private static boolean isSetSize(int e) {
        return e >= 0 && e <= MOST_NODES;
    }

    public int best(int node, int data, int e) {
        if (!now.nodes.has(node) || !now.nodes.isParity(node) || data < 0 || data >= MOST_DATA) {
            return NONE;
        }
        if (!isSetSize(e)) {
            return BAD;
        }
        return chooser.bestNumber(now.nodes, node, data, e);
    }

    // ---- seen, odds.

    public int see(int node, int symbol) {
        return tellSymbol(now.seen, node, symbol);
    }

    /** A row of a NODE and its SYMBOL, as SEEN and the BOOK have them. */
    private int tellSymbol(Pairs pairs, int node, int symbol) {
        if (node == -1) {
            pairs.size = 0;
            return 0;
        }
        if (!now.nodes.has(node)) {
            return NONE;
        }
        if (!isNumber(symbol)) {
            return BAD;
        }
        return pairs.add(node, symbol) ? pairs.size : FULL;
    }

    public long ways(int what) {
        boolean isAny = gatherSeen();
        if (what == 0) {
            return isAny ? 1L << 4 * (now.nodes.dataSize - known.size) : 0L;
        }
        return what == 1 && isAny ? leastWay() : NO;
    }

    /**
     * What is SEEN, as rows that are 0 for whatever the DATA were written: the SYMBOL at place 0,
     * the number for DATA d at place d + 1. False: no way has all of it (a SYMBOL but 0 would be 0).
     */
    private boolean gatherSeen() {
        known.clear();
        for (int i = 0; i < now.seen.size; i++) {
            known.take(seenForm(now.seen.first[i]) | now.seen.second[i]);
        }
        return known.rows[0] == 0;
    }

    /** DATA that haven't come are 0 in all ways, so their numbers are left out. */
    private int seenForm(int node) {
        int came = (1 << 4 * now.nodes.dataSize) - 1;
        return now.nodes.has(node) ? (now.nodes.forms[node] & came) << 4 : 0;
    }

    /** A row of what is known tells the last of its DATA by those ahead; what no row tells so is free, and 0. */
    private long leastWay() {
        int way = 1;
        long least = 0;
        for (int data = 0; data < now.nodes.dataSize; data++) {
            int row = known.rows[data + 1];
            int symbol = 0;
            for (int place = 0; place <= data; place++) {
                symbol ^= numbers.product(numberAt(row, place), numberAt(way, place));
            }
            way |= symbol << 4 * (data + 1);
            least = 16 * least + symbol;
        }
        return least;
    }

    public int can(int node) {
        if (!now.nodes.has(node)) {
            return NONE;
        }
        if (!gatherSeen()) {
            return 0;
        }
        int left = known.left(seenForm(node));
        boolean hangsOnFree = left >>> 4 != 0;
        return hangsOnFree ? 0xFFFF : 1 << left;
    }

    public long odds(int e, int part) {
        if (!isSetSize(e) || e > now.nodes.size || !isPart(part)) {
            return NO;
        }
        return partOf(safeSets(e), allSets(e), part);
    }

    public long mean(int part) {
        if (!isPart(part)) {
            return NO;
        }
        int costs = 0;
        int helped = 0;
        for (int node = 0; node < now.nodes.size; node++) {
            int help = helps.helpOf(now.nodes, node);
            if (help != ABSENT) {
                costs += now.nodes.costsOf(help);
                helped++;
            }
        }
        return helped == 0 ? NO : partOf(costs, helped, part);
    }

    private static boolean isPart(int part) {
        return part == 0 || part == 1;
    }

    /** What is above (part 0) or below the line of a fraction in lowest terms. */
    private static long partOf(int above, int below, int part) {
        int measure = greatestMeasure(above, below);
        if (measure == 0) {
            return NO;
        }
        return part == 0 ? above / measure : below / measure;
    }

    private static int greatestMeasure(int a, int b) {
        int greater = a;
        int less = b;
        for (int steps = 0; less > 0 && steps < 100; steps++) {
            int rest = greater % less;
            greater = less;
            less = rest;
        }
        return greater;
    }

    // ---- plans, books.

    public int plan(int what, int node) {
        if (what == -1) {
            now.steps.size = 0;
            return 0;
        }
        if (what < STEP_LOSE || what > STEP_CHEAPEN || !now.nodes.has(node)) {
            return NONE;
        }
        return now.steps.add(what, node) ? now.steps.size : FULL;
    }

    public int ends(int what) {
        if (what != 0 && what != 1) {
            return NONE;
        }
        trial.copyFrom(now.nodes);
        int costs = 0;
        for (int i = 0; i < now.steps.size; i++) {
            costs += playStep(now.steps.first[i], now.steps.second[i]);
        }
        return what == 0 ? trial.missing : costs;
    }

    /** COSTS of the HELP by which the step REPAIRED a NODE, or 0. */
    private int playStep(int what, int node) {
        if (!trial.has(node)) {
            return 0;
        }
        if (what == STEP_REPAIR) {
            return Math.max(0, helps.bringBack(trial, node));
        }
        if (what == STEP_LOSE) {
            trial.missing |= 1 << node;
        } else {
            trial.vs[node] = 0;
        }
        return 0;
    }

    public int book(int node, int symbol) {
        return tellSymbol(now.booked, node, symbol);
    }

    public int looked() {
        for (int i = 0; i < now.booked.size; i++) {
            if (shown(now.booked.first[i]) != now.booked.second[i]) {
                return i;
            }
        }
        return ABSENT;
    }

    /** A NODE's SYMBOL, or -1, if it is MISSING. */
    private int shown(int node) {
        boolean isThere = now.nodes.has(node) && !now.nodes.isMissing(node);
        return isThere ? now.nodes.symbolOf(numbers, node) : -1;
    }

    // ---- judging, the image, tapes.

    public int judge(int tape, int i) {
        if (!Tapes.has(tape)) {
            return NONE;
        }
        if (tapes.sorts[tape] != Tapes.EMPTY && tapes.sorts[tape] != Tapes.BYTES) {
            return CAST;
        }
        for (int node = 0; node < now.nodes.size; node++) {
            if (i < 0 || i >= tapes.sizes[tape] - node) {
                return RAN_OUT + node;
            }
            if (tapes.items[tape][i + node] != shown(node)) {
                return node;
            }
        }
        return ABSENT;
    }

    public int image() {
        kept.copyFrom(now);
        isKept = true;
        return now.nodes.size;
    }

    /** The ranks stay: NODES go only by this, so those of THE IMAGE are always the first of those now. */
    public int undo() {
        if (!isKept) {
            return STATE;
        }
        now.copyFrom(kept);
        return now.nodes.size;
    }

    public int taken(int node, int k) {
        if (!isKind(k)) {
            return BAD;
        }
        if (!now.nodes.has(node)) {
            return NOTHING;
        }
        return isUnder(now.nodes.kinds[node], k) ? now.nodes.kinds[node] : CAST;
    }

    private static boolean isUnder(int kind, int upper) {
        int at = kind;
        for (int steps = 0; steps < ABOVE.length && isKind(at); steps++) {
            if (at == upper) {
                return true;
            }
            at = ABOVE[at];
        }
        return false;
    }

    public int count(int what) {
        switch (what) {
            case 0:
                return now.nodes.size;
            case 1:
                return now.nodes.dataSize;
            case 2:
                return now.seen.size;
            case 3:
                return now.steps.size;
            case 4:
                return now.booked.size;
            case 5:
                return text.size;
            default:
                return BAD;
        }
    }

    public int tape(int tape, int sort, int n) {
        if (!Tapes.has(tape)) {
            return NONE;
        }
        if (sort == Tapes.EMPTY) {
            tapes.make(tape, sort, 0);
            return 1;
        }
        if (sort < Tapes.BYTES || sort > Tapes.BOOLEANS || n > Tapes.MOST_ITEMS) {
            return BAD;
        }
        if (n < 0) {
            return SIZE;
        }
        tapes.make(tape, sort, n);
        return 1;
    }

    public int item(int tape, int i, long v) {
        if (!Tapes.has(tape)) {
            return NONE;
        }
        if (tapes.sorts[tape] == Tapes.EMPTY) {
            return NOTHING;
        }
        if (!tapes.hasItem(tape, i)) {
            return PLACE;
        }
        tapes.items[tape][i] = Tapes.cut(tapes.sorts[tape], v);
        return 1;
    }

    public long read(int tape, int i) {
        return tapes.hasItem(tape, i) ? tapes.items[tape][i] : NO;
    }

    public int shift(int tape, int i, int other, int j, int n) {
        if (!Tapes.has(tape) || !Tapes.has(other)) {
            return NONE;
        }
        if (tapes.sorts[tape] == Tapes.EMPTY || tapes.sorts[other] == Tapes.EMPTY) {
            return NOTHING;
        }
        if (tapes.sorts[tape] != tapes.sorts[other]) {
            return CAST;
        }
        if (!tapes.hasRun(tape, i, n) || !tapes.hasRun(other, j, n)) {
            return PLACE;
        }
        System.arraycopy(tapes.items[tape], i, tapes.items[other], j, n);
        return n;
    }

    /**
     * THE FIELD. A row of numbers is held in one int, four bits a number, the number of place p at
     * bits 4p and up: so a sum of rows is one xor, and a row is multiplied at once.
     */
    private static final class Numbers {
        private static final int FIRST_POLY = 19;
        private static final int ALL_BUT_LOWEST = 0xEEEEEEEE;
        private static final int LOWEST = 0x11111111;

        int poly;
        int generator;
        private final int[] inverses;

        Numbers() {
            inverses = new int[16];
            choose(FIRST_POLY);
        }

        void choose(int newPoly) {
            poly = newPoly;
            generator = leastGenerator(newPoly);
            for (int number = 0; number < inverses.length; number++) {
                inverses[number] = inverseBy(newPoly, number);
            }
        }

        static boolean isField(int poly) {
            for (int number = 1; number <= 15; number++) {
                if (inverseBy(poly, number) == 0) {
                    return false;
                }
            }
            return true;
        }

        /** The number that times this one is 1; 0: there is none. */
        private static int inverseBy(int poly, int number) {
            for (int other = 1; other <= 15; other++) {
                if (productBy(poly, number, other) == 1) {
                    return other;
                }
            }
            return 0;
        }

        private static int leastGenerator(int poly) {
            for (int number = 1; number <= 15; number++) {
                if (order(poly, number) == 15) {
                    return number;
                }
            }
            return 0;
        }

        /** The least power, but 0, of a number that is 1 (15, if none below is). */
        private static int order(int poly, int number) {
            int power = number;
            int n = 1;
            while (power != 1 && n < 15) {
                power = productBy(poly, power, number);
                n++;
            }
            return n;
        }

        /** Bits that come above a number's four are POLY's lower ones, in the same number. */
        static int productBy(int poly, int row, int number) {
            int product = 0;
            int higher = row;
            for (int bit = 0; bit < 4; bit++) {
                if ((number >> bit & 1) != 0) {
                    product ^= higher;
                }
                int over = (higher >>> 3) & LOWEST;
                higher = ((higher << 1) & ALL_BUT_LOWEST) ^ (over * (poly & 15));
            }
            return product;
        }

        int product(int row, int number) {
            return productBy(poly, row, number);
        }

        int inverse(int number) {
            return isNumber(number) ? inverses[number] : 0;
        }

        int power(int number, int n) {
            int power = 1;
            for (int i = 0; i < n; i++) {
                power = product(power, number);
            }
            return power;
        }

        int logarithm(int number) {
            int power = 1;
            for (int n = 0; n < 15; n++) {
                if (power == number) {
                    return n;
                }
                power = product(power, generator);
            }
            return 0;
        }
    }

    /** All sums of some rows times numbers. What is kept at a place ends there (higher numbers are 0) with a 1. */
    private static final class Span {
        private static final int PLACES = 1 + MOST_DATA;

        final int[] rows;
        /** How many rows are kept. */
        int size;
        private final Numbers numbers;

        Span(Numbers numbers) {
            this.numbers = numbers;
            rows = new int[PLACES];
            size = 0;
        }

        void clear() {
            for (int place = 0; place < PLACES; place++) {
                rows[place] = 0;
            }
            size = 0;
        }

        void copyFrom(Span other) {
            System.arraycopy(other.rows, 0, rows, 0, PLACES);
            size = other.size;
        }

        /** A row less some in the span, 0 at every place where one is kept: 0, if it is in the span itself. */
        int left(int row) {
            int left = row;
            for (int place = PLACES - 1; place >= 0; place--) {
                int number = numberAt(left, place);
                if (number != 0 && rows[place] != 0) {
                    left ^= Numbers.productBy(numbers.poly, rows[place], number);
                }
            }
            return left;
        }

        void take(int row) {
            int left = left(row);
            for (int place = PLACES - 1; place >= 0; place--) {
                int number = numberAt(left, place);
                if (number != 0) {
                    rows[place] = numbers.product(left, numbers.inverse(number));
                    size++;
                    return;
                }
            }
        }

        void takeAll(Nodes nodes, int set) {
            for (int node = 0; node < nodes.size; node++) {
                if ((set >> node & 1) != 0) {
                    take(nodes.forms[node]);
                }
            }
        }
    }

    /** THE TEXT, and the FORM read from it: E, T, F and C are the document's. */
    private static final class FormText {
        private static final int MOST_SIGNS = 100;
        private static final int DEEPEST = 4;
        private static final int END = -1;

        private final char[] signs;
        int size;
        /** What was read: the FORM, and where reading ended, by a FAULT there. */
        int form;
        int place;

        FormText() {
            signs = new char[MOST_SIGNS];
            size = 0;
            form = 0;
            place = 0;
        }

        boolean add(int sign) {
            if (size >= signs.length) {
                return false;
            }
            signs[size] = (char) sign;
            size++;
            return true;
        }

        boolean parse(Numbers numbers) {
            form = 0;
            place = 0;
            return parseSum(numbers, 1, 0) && place == size;
        }

        /** E, all of it times factor, within depth others. */
        private boolean parseSum(Numbers numbers, int factor, int depth) {
            for (int terms = 0; terms < MOST_SIGNS; terms++) {
                if (!parseTerm(numbers, factor, depth)) {
                    return false;
                }
                if (!skip('+')) {
                    return true;
                }
            }
            return false;
        }

        /** T. A C that can't have its * any more is no beginning either. */
        private boolean parseTerm(Numbers numbers, int factor, int depth) {
            int times = factor;
            int within = depth;
            while (within < DEEPEST && hexadecimal(next()) >= 0) {
                times = numbers.product(times, hexadecimal(next()));
                place++;
                if (!skip('*')) {
                    return false;
                }
                within++;
            }
            if (skip('x')) {
                return parseData(times);
            }
            if (within >= DEEPEST || !skip('(')) {
                return false;
            }
            return parseSum(numbers, times, within + 1) && skip(')');
        }

        private boolean parseData(int times) {
            int data = next() - '0';
            if (data < 0 || data >= MOST_DATA) {
                return false;
            }
            form ^= times << 4 * data;
            place++;
            return true;
        }

        private int next() {
            return place >= 0 && place < size && place < signs.length ? signs[place] : END;
        }

        private boolean skip(char sign) {
            if (next() != sign) {
                return false;
            }
            place++;
            return true;
        }

        /** C's number; -1: it is none. */
        private static int hexadecimal(int sign) {
            if (sign >= '0' && sign <= '9') {
                return sign - '0';
            }
            return sign >= 'a' && sign <= 'f' ? sign - 'a' + 10 : -1;
        }
    }

    /** NODES with all that is theirs. */
    private static final class Nodes {
        int size;
        int dataSize;
        /** Which NODES are DATA, and which are MISSING, as bits. */
        int dataSet;
        int missing;
        final int[] kinds;
        final int[] vs;
        final int[] dataOf;
        final int[] forms;
        final int[] reads;
        final int[][] rows;
        /** Of each DATA: its NODE, and what it was written. */
        final int[] nodeOf;
        final int[] written;

        Nodes() {
            size = 0;
            dataSize = 0;
            dataSet = 0;
            missing = 0;
            kinds = new int[MOST_NODES];
            vs = new int[MOST_NODES];
            dataOf = new int[MOST_NODES];
            forms = new int[MOST_NODES];
            reads = new int[MOST_NODES];
            rows = new int[MOST_NODES][ROW_PARTS];
            nodeOf = new int[MOST_DATA];
            written = new int[MOST_DATA];
        }

        void copyFrom(Nodes other) {
            size = other.size;
            dataSize = other.dataSize;
            dataSet = other.dataSet;
            missing = other.missing;
            System.arraycopy(other.kinds, 0, kinds, 0, MOST_NODES);
            System.arraycopy(other.vs, 0, vs, 0, MOST_NODES);
            System.arraycopy(other.dataOf, 0, dataOf, 0, MOST_NODES);
            System.arraycopy(other.forms, 0, forms, 0, MOST_NODES);
            System.arraycopy(other.reads, 0, reads, 0, MOST_NODES);
            for (int node = 0; node < MOST_NODES; node++) {
                System.arraycopy(other.rows[node], 0, rows[node], 0, ROW_PARTS);
            }
            System.arraycopy(other.nodeOf, 0, nodeOf, 0, MOST_DATA);
            System.arraycopy(other.written, 0, written, 0, MOST_DATA);
        }

        int addData(int kind, int v) {
            if (dataSize >= MOST_DATA) {
                return FULL;
            }
            int node = add(kind, v, dataSize, 1 << 4 * dataSize);
            dataSet |= 1 << node;
            nodeOf[dataSize] = node;
            written[dataSize] = 0;
            dataSize++;
            return node;
        }

        int addParity(int kind, int v, int form) {
            return add(kind, v, ABSENT, form);
        }

        private int add(int kind, int v, int data, int form) {
            if (size >= MOST_NODES) {
                return FULL;
            }
            int node = size;
            kinds[node] = kind;
            vs[node] = v;
            dataOf[node] = data;
            forms[node] = form;
            reads[node] = 0;
            for (int part = 0; part < ROW_PARTS; part++) {
                rows[node][part] = 0;
            }
            size++;
            return node;
        }

        boolean has(int node) {
            return node >= 0 && node < size;
        }

        int everyone() {
            return (1 << size) - 1;
        }

        int there() {
            return everyone() & ~missing;
        }

        boolean isMissing(int node) {
            return (missing >> node & 1) != 0;
        }

        boolean isParity(int node) {
            return has(node) && dataOf[node] == ABSENT;
        }

        boolean isDataMissing(int data) {
            return data >= 0 && data < dataSize && isMissing(nodeOf[data]);
        }

        boolean needsMissing(int form) {
            for (int data = 0; data < dataSize; data++) {
                if (numberAt(form, data) != 0 && isDataMissing(data)) {
                    return true;
                }
            }
            return false;
        }

        /** By what the DATA were written, MISSING or not. */
        int symbolOf(Numbers numbers, int node) {
            int symbol = 0;
            for (int data = 0; data < dataSize && has(node); data++) {
                symbol ^= numbers.product(written[data], numberAt(forms[node], data));
            }
            return symbol;
        }

        int costOf(int node) {
            if (!has(node)) {
                return 0;
            }
            int plain = vs[node] + 1;
            int near = Math.max(1, plain / 2);
            int busy = plain + Math.min(9, reads[node]);
            switch (kinds[node]) {
                case NEAR:
                    return near;
                case FAR:
                    return 2 * plain;
                case BUSY:
                    return busy;
                case CACHED:
                    return reads[node] % 2 == 1 ? 1 : near;
                case DEEP:
                    return 2 * plain + (dataOf[node] == ABSENT ? 5 : 0);
                case TOLD:
                    return busy + rows[node][reads[node] & 3];
                default:
                    return plain;
            }
        }

        /** COSTS of a set, together; of none (-5), none. */
        int costsOf(int set) {
            if (set == ABSENT) {
                return ABSENT;
            }
            int costs = 0;
            for (int node = 0; node < size; node++) {
                if ((set >> node & 1) != 0) {
                    costs += costOf(node);
                }
            }
            return costs;
        }

        void countReads(int set) {
            for (int node = 0; node < size; node++) {
                if ((set >> node & 1) != 0) {
                    reads[node] = Math.min(MOST_READS, reads[node] + 1);
                }
            }
        }
    }

    /** RANK of every set of NODES. A set TELLS a NODE, if its RANK is the same with that one. */
    private static final class Ranks {
        private final int[] ranks;
        /** The span of a set, at the place of its least NODE; the empty set's is the last. */
        private final Span[] spans;

        Ranks(Numbers numbers) {
            ranks = new int[1 << MOST_NODES];
            spans = new Span[MOST_NODES + 1];
            for (int i = 0; i < spans.length; i++) {
                spans[i] = new Span(numbers);
            }
        }

        int rankOf(int set) {
            return set >= 0 && set < ranks.length ? ranks[set] : 0;
        }

        boolean tells(int set, int node) {
            return rankOf(set | 1 << node) == rankOf(set);
        }

        /**
         * RANKS of all sets that have the newest NODE. The sets of those ahead come in the order of
         * their bits: since a set without its least NODE came, only sets with lesser ones did, so its
         * span still stands, and a set's span is made by taking one row.
         */
        void extend(Nodes nodes, int node) {
            if (!nodes.has(node)) {
                return;
            }
            int bit = 1 << node;
            for (int set = 0; set < bit; set++) {
                int least = leastOf(set);
                if (set != 0) {
                    spans[least].copyFrom(spans[leastOf(set & (set - 1))]);
                    spans[least].take(nodes.forms[least]);
                }
                boolean isTold = spans[least].left(nodes.forms[node]) == 0;
                ranks[set | bit] = ranks[set] + (isTold ? 0 : 1);
            }
        }

        private static int leastOf(int set) {
            for (int node = 0; node < MOST_NODES; node++) {
                if ((set >> node & 1) != 0) {
                    return node;
                }
            }
            return MOST_NODES;
        }
    }

    /** HELP, and what is REPAIRED by it. */
    private static final class Helps {
        private final Ranks ranks;
        /** COSTS of every set. */
        private final int[] costs;

        Helps(Ranks ranks) {
            this.ranks = ranks;
            costs = new int[1 << MOST_NODES];
        }

        int helpOf(Nodes nodes, int node) {
            int others = nodes.there() & ~(1 << node);
            if (!ranks.tells(others, node)) {
                return ABSENT;
            }
            weigh(nodes);
            int help = others;
            for (int set = others; set >= 0; set--) {
                boolean isSet = (set & ~others) == 0;
                if (isSet && costs[set] <= costs[help] && ranks.tells(set, node)) {
                    help = set;
                }
            }
            return help;
        }

        private void weigh(Nodes nodes) {
            for (int node = 0; node < nodes.size; node++) {
                int bit = 1 << node;
                int cost = nodes.costOf(node);
                for (int set = 0; set < bit; set++) {
                    costs[set | bit] = costs[set] + cost;
                }
            }
        }

        /** A MISSING NODE is REPAIRED: COSTS of its HELP ahead of that; -5: it can't be. */
        int bringBack(Nodes nodes, int node) {
            if (!nodes.isMissing(node)) {
                return ABSENT;
            }
            int help = helpOf(nodes, node);
            if (help == ABSENT) {
                return ABSENT;
            }
            int cost = nodes.costsOf(help);
            nodes.missing &= ~(1 << node);
            nodes.countReads(help);
            return cost;
        }
    }

    /** BEST: every number tried for a DATA in a PARITY's FORM. */
    private static final class Chooser {
        private final Numbers numbers;
        private final Span others;
        private final Span withData;
        /** How many sets are SAFE by each number. */
        private final int[] safe;

        Chooser(Numbers numbers) {
            this.numbers = numbers;
            others = new Span(numbers);
            withData = new Span(numbers);
            safe = new int[16];
        }

        /** Sets that have the PARITY itself are SAFE by all numbers or by none, so they are left out. */
        int bestNumber(Nodes nodes, int node, int data, int e) {
            for (int number = 0; number < safe.length; number++) {
                safe[number] = 0;
            }
            int rest = nodes.everyone() & ~(1 << node);
            for (int lost = 0; lost <= rest; lost++) {
                if ((lost & ~rest) == 0 && Integer.bitCount(lost) == e) {
                    tryAll(nodes, node, data, rest & ~lost);
                }
            }
            int best = 0;
            for (int number = 1; number < safe.length; number++) {
                if (safe[number] > safe[best]) {
                    best = number;
                }
            }
            return best;
        }

        /** Those THERE tell all DATA, if they, the PARITY too, have the same RANK with the DATA and without. */
        private void tryAll(Nodes nodes, int node, int data, int there) {
            others.clear();
            others.takeAll(nodes, there);
            withData.copyFrom(others);
            withData.takeAll(nodes, nodes.dataSet);
            int unit = 1 << 4 * data;
            int fixed = nodes.has(node) ? nodes.forms[node] & ~(15 * unit) : 0;
            for (int number = 0; number < safe.length; number++) {
                int form = fixed | number * unit;
                int without = others.size + (others.left(form) == 0 ? 0 : 1);
                int with = withData.size + (withData.left(form) == 0 ? 0 : 1);
                if (without == with) {
                    safe[number]++;
                }
            }
        }
    }

    /** Rows of two numbers, told by hand. */
    private static final class Pairs {
        final int[] first;
        final int[] second;
        int size;

        Pairs(int most) {
            int length = Math.max(0, most);
            first = new int[length];
            second = new int[length];
            size = 0;
        }

        boolean add(int one, int other) {
            if (size >= first.length) {
                return false;
            }
            first[size] = one;
            second[size] = other;
            size++;
            return true;
        }

        void copyFrom(Pairs other) {
            int length = Math.min(other.size, first.length);
            System.arraycopy(other.first, 0, first, 0, length);
            System.arraycopy(other.second, 0, second, 0, length);
            size = length;
        }
    }

    /** All that THE IMAGE has. */
    private static final class Store {
        final Nodes nodes;
        final Pairs seen;
        final Pairs steps;
        final Pairs booked;

        Store() {
            nodes = new Nodes();
            seen = new Pairs(MOST_SEEN);
            steps = new Pairs(MOST_STEPS);
            booked = new Pairs(MOST_BOOKED);
        }

        void copyFrom(Store other) {
            nodes.copyFrom(other.nodes);
            seen.copyFrom(other.seen);
            steps.copyFrom(other.steps);
            booked.copyFrom(other.booked);
        }
    }

    /** TAPES: items of every sort are held as longs, cut to their sort. */
    private static final class Tapes {
        static final int EMPTY = -1, BYTES = 0, BOOLEANS = 4;
        static final int MOST_ITEMS = 60;
        private static final int SHORTS = 1, INTS = 2;
        private static final int MOST_TAPES = 6;

        final int[] sorts;
        final int[] sizes;
        final long[][] items;

        Tapes() {
            sorts = new int[MOST_TAPES];
            sizes = new int[MOST_TAPES];
            items = new long[MOST_TAPES][MOST_ITEMS];
            for (int tape = 0; tape < MOST_TAPES; tape++) {
                sorts[tape] = EMPTY;
            }
        }

        static boolean has(int tape) {
            return tape >= 0 && tape < MOST_TAPES;
        }

        void make(int tape, int sort, int size) {
            if (!has(tape)) {
                return;
            }
            sorts[tape] = sort;
            sizes[tape] = size;
            for (int i = 0; i < MOST_ITEMS; i++) {
                items[tape][i] = 0;
            }
        }

        boolean hasItem(int tape, int i) {
            return has(tape) && i >= 0 && i < sizes[tape];
        }

        /** Whether n items from i on are there; n is taken off the size, for i and n may be too great to be summed. */
        boolean hasRun(int tape, int i, int n) {
            return has(tape) && n >= 0 && i >= 0 && i <= sizes[tape] - n;
        }

        static long cut(int sort, long v) {
            switch (sort) {
                case BYTES:
                    return (byte) v;
                case SHORTS:
                    return (short) v;
                case INTS:
                    return (int) v;
                case BOOLEANS:
                    return v != 0 ? 1 : 0;
                default:
                    return v;
            }
        }
    }
}
