/** Promises 16 to 20 at their edges: a test for each sentence. */
public final class EdgeSeenTest {
    private static final Check CHECK = new Check("EdgeSeenTest");
    private static final long NO = Long.MIN_VALUE;
    private static final int MAX = Integer.MAX_VALUE, MIN = Integer.MIN_VALUE;

    public static void main(String[] args) {
        seeNone();
        seeBad();
        seeFull();
        seeFirstOfTwo();
        noneThen();
        waysNo();
        waysOfNoData();
        waysOfThoseThatCame();
        waysOfAll();
        waysOfNone();
        leastEdges();
        canNone();
        canEdges();
        oddsNo();
        oddsOfNoSets();
        oddsLowest();
        meanNo();
        meanOfNone();
        meanLowest();
        meanOfZeros();
        CHECK.end();
    }

    private static void no(Twins.Calls made, String call, Twins.Call it, long want) {
        Twins.unchanged(CHECK, made, call, it, want);
    }

    private static RepairGroups data(int n) {
        RepairGroups x = new RepairGroups();
        for (int d = 0; d < n; d++) {
            x.data(0, 0);
        }
        return x;
    }

    private static void seeNone() {
        CHECK.sentence("p16 NONE");
        no(Twins.EMPTY, "see(0, 0)", x -> x.see(0, 0), -1);
        int[] rich = {-2, 5, 9, 10, -6, 31, 32, 256, MIN, MIN + 1, MAX};
        for (int node : rich) {
            no(Twins.RICH, "see(" + node + ", 0)", x -> x.see(node, 0), -1);
        }
        int[] full = {-2, 10, 11, 32, MIN, MAX};
        for (int node : full) {
            no(Twins.FULL, "see(" + node + ", 0)", x -> x.see(node, 0), -1);
        }
        RepairGroups x = new RepairGroups();
        Twins.RICH.on(x);
        CHECK.due("the last: see(4, 0)", x.see(4, 0), 4);
        CHECK.due("the least: see(0, 5)", x.see(0, 5), 5);
    }

    private static void seeBad() {
        CHECK.sentence("p16 BAD: symbol");
        for (int symbol : Check.outside(0, 15)) {
            no(Twins.RICH, "see(0, " + symbol + ")", x -> x.see(0, symbol), -2);
            no(Twins.RICH, "see(3, " + symbol + "), MISSING", x -> x.see(3, symbol), -2);
        }
        RepairGroups x = data(1);
        CHECK.due("the greatest: see(0, 15)", x.see(0, 15), 1);
        CHECK.due("can(0)", x.can(0), 32768);
        CHECK.due("the least: see(0, 0)", x.see(0, 0), 2);
    }

    private static void seeFull() {
        CHECK.sentence("SEEN told by hand .. (5 rows at most) .. p16 FULL: 5");
        RepairGroups x = data(1);
        for (int n = 1; n <= 5; n++) {
            CHECK.due("row " + n, x.see(0, 3), n);
        }
        CHECK.due("row 6", x.see(0, 3), -4);
        CHECK.due("row 6, another", x.see(0, 4), -4);
        CHECK.due("count(2)", x.count(2), 5);
        CHECK.due("ways(0)", x.ways(0), 1);
        no(Twins.FULL, "see(0, 2)", y -> y.see(0, 2), -4);
        no(Twins.FULL, "see(9, 15)", y -> y.see(9, 15), -4);
    }

    private static void seeFirstOfTwo() {
        CHECK.sentence("p16 NONE; BAD .. FULL: the first that a call's words name");
        no(Twins.RICH, "node ahead of symbol", x -> x.see(5, 16), -1);
        no(Twins.EMPTY, "node ahead of symbol, no NODES", x -> x.see(0, -1), -1);
        no(Twins.FULL, "node ahead of FULL", x -> x.see(10, 0), -1);
        no(Twins.FULL, "symbol ahead of FULL", x -> x.see(0, 16), -2);
        no(Twins.FULL, "symbol below ahead of FULL", x -> x.see(0, -1), -2);
        no(Twins.FULL, "node ahead of symbol and FULL", x -> x.see(-2, 16), -1);
    }

    private static void noneThen() {
        CHECK.sentence("p16 (node -1: none then, 0, whatever the rest is)");
        int[] symbols = {MIN, -1, 0, 15, 16, MAX};
        for (int symbol : symbols) {
            for (Twins.Calls made : Twins.ALL) {
                RepairGroups x = new RepairGroups();
                made.on(x);
                CHECK.due("see(-1, " + symbol + ")", x.see(-1, symbol), 0);
                CHECK.due("count(2)", x.count(2), 0);
                CHECK.due("ways(0)", x.ways(0), 1L << 4 * x.count(1));
                CHECK.due("see(-1, " + symbol + ") again", x.see(-1, symbol), 0);
            }
        }
        RepairGroups x = new RepairGroups();
        Twins.FULL.on(x);
        x.see(-1, 0);
        for (int n = 1; n <= 5; n++) {
            CHECK.due("row " + n + " from the start again", x.see(0, 1), n);
        }
        CHECK.due("row 6", x.see(0, 1), -4);
        CHECK.due("the PLAN stays", x.count(3), 10);
        CHECK.due("the BOOK stays", x.count(4), 8);
    }

    private static void waysNo() {
        CHECK.sentence("p17 What 0 WAYS, 1 LEAST. NO.");
        for (int what : Check.outside(0, 1)) {
            for (Twins.Calls made : Twins.ALL) {
                no(made, "ways(" + what + ")", x -> x.ways(what), NO);
            }
        }
        no(Twins.FULL, "the least: ways(0)", x -> x.ways(0), 1);
        no(Twins.FULL, "the greatest: ways(1)", x -> x.ways(1), 0x147AD);
    }

    private static void waysOfNoData() {
        CHECK.sentence("WAYS of no DATA: one");
        no(Twins.EMPTY, "ways(0)", x -> x.ways(0), 1);
        no(Twins.EMPTY, "ways(1)", x -> x.ways(1), 0);
        RepairGroups x = new RepairGroups();
        Check.parity(x, 0, 0, "x0+x4");
        CHECK.due("a PARITY alone", x.ways(0), 1);
        x.see(0, 0);
        CHECK.due("its SYMBOL is 0", x.ways(0), 1);
        CHECK.due("LEAST", x.ways(1), 0);
        x.see(0, 15);
        CHECK.due("not 15", x.ways(0), 0);
        CHECK.due("LEAST of none", x.ways(1), NO);
    }

    private static void waysOfThoseThatCame() {
        CHECK.sentence("in how many ways the DATA that came could be written (0 .. 15 each)");
        for (int came = 0; came <= 5; came++) {
            for (int c = 1; c <= 15; c++) {
                RepairGroups x = data(came);
                StringBuilder text = new StringBuilder();
                for (int d = 0; d < 5; d++) {
                    text.append(d == 0 ? "" : "+").append("0123456789abcdef".charAt(c)).append("*x").append(d);
                }
                Check.parity(x, 0, 0, text.toString());
                x.see(came, c);
                String by = " by " + came + " DATA and " + text;
                CHECK.due("WAYS" + by, x.ways(0), came == 0 ? 0 : 1L << 4 * (came - 1));
                CHECK.due("LEAST" + by, x.ways(1), came == 0 ? NO : 1);
                CHECK.due("CAN" + by, x.can(came), came == 0 ? 0 : 1 << c);
                CHECK.due("CAN of DATA 0" + by, x.can(0), came == 0 ? 0 : came == 1 ? 2 : 65535);
            }
        }
    }

    private static void waysOfAll() {
        CHECK.sentence("WAYS, nothing SEEN: all");
        long all = 1;
        for (int n = 1; n <= 5; n++) {
            all *= 16;
            CHECK.due("of " + n + " DATA", data(n).ways(0), all);
            CHECK.due("LEAST of " + n, data(n).ways(1), 0);
        }
        RepairGroups x = data(5);
        for (int d = 0; d < 5; d++) {
            x.see(d, 15);
            all /= 16;
            CHECK.due("with " + (d + 1) + " SEEN", x.ways(0), all);
        }
        CHECK.due("the greatest LEAST", x.ways(1), 0xFFFFF);
        RepairGroups y = data(5);
        Check.parity(y, 0, 0, "0*x0");
        y.see(5, 0);
        CHECK.due("SEEN of a FORM of zeros", y.ways(0), 1048576);
    }

    private static void waysOfNone() {
        CHECK.sentence("p17 LEAST (NO: there are none)");
        RepairGroups x = data(2);
        x.see(0, 3);
        x.see(0, 4);
        CHECK.due("two of one: ways(0)", x.ways(0), 0);
        CHECK.due("ways(1)", x.ways(1), NO);
        RepairGroups y = data(2);
        Check.parity(y, 0, 0, "0*x0");
        y.see(2, 1);
        CHECK.due("1 of a FORM of zeros: ways(0)", y.ways(0), 0);
        CHECK.due("ways(1)", y.ways(1), NO);
        CHECK.due("can(0)", y.can(0), 0);
        CHECK.due("can(2)", y.can(2), 0);
        y.see(-1, 0);
        CHECK.due("ways(0) again", y.ways(0), 256);
        CHECK.due("can(2) again", y.can(2), 1);
    }

    private static void leastEdges() {
        CHECK.sentence("the one with the least DATA 0, of these with the least DATA 1, and so on: as a number, 16 times what stood ahead and the next one");
        RepairGroups x = data(5);
        CHECK.due("all 0", x.ways(1), 0);
        int[] want = {0xF0000, 0xF000, 0xF00, 0xF0, 0xF};
        for (int d = 0; d < 5; d++) {
            x.see(-1, 0);
            x.see(d, 15);
            CHECK.due("DATA " + d + " alone", x.ways(1), want[d]);
        }
        x.see(-1, 0);
        Check.parity(x, 0, 0, "x0+x1+x2+x3+x4");
        x.see(5, 9);
        CHECK.due("a sum: the last has it", x.ways(1), 9);
        x.see(4, 0);
        CHECK.due("the last is 0: the one ahead has it", x.ways(1), 0x90);
        x.see(3, 1);
        CHECK.due("both told", x.ways(1), 0x810);
        x.see(2, 8);
        CHECK.due("all three", x.ways(1), 0x810);
        x.see(1, 15);
        CHECK.due("all told", x.ways(1), 0xFF810);
    }

    private static void canNone() {
        CHECK.sentence("p18 NONE.");
        no(Twins.EMPTY, "can(0)", x -> x.can(0), -1);
        no(Twins.EMPTY, "can(-1)", x -> x.can(-1), -1);
        for (int node : Check.outside(0, 4)) {
            no(Twins.RICH, "can(" + node + ")", x -> x.can(node), -1);
        }
        for (int node : Check.outside(0, 9)) {
            no(Twins.FULL, "can(" + node + ")", x -> x.can(node), -1);
        }
        no(Twins.FULL, "the last: can(9)", x -> x.can(9), 1 << 13);
        Twins.Calls noWays = x -> {
            x.data(0, 0);
            x.see(0, 1);
            x.see(0, 2);
        };
        no(noWays, "can(1), no ways", x -> x.can(1), -1);
        no(noWays, "can(-1), no ways", x -> x.can(-1), -1);
        no(noWays, "can(0), no ways", x -> x.can(0), 0);
    }

    private static void canEdges() {
        CHECK.sentence("CAN of a NODE: the SYMBOLS that it has in these ways, as bits.");
        RepairGroups x = data(2);
        Check.parity(x, 0, 0, "0*x0");
        Check.parity(x, 0, 0, "x0+x3");
        CHECK.due("all 16", x.can(0), 65535);
        CHECK.due("of zeros 0 alone", x.can(2), 1);
        CHECK.due("by one that hasn't come", x.can(3), 65535);
        x.see(0, 15);
        CHECK.due("the greatest alone", x.can(0), 32768);
        CHECK.due("told by it", x.can(3), 32768);
        CHECK.due("others", x.can(1), 65535);
        x.see(3, 0);
        CHECK.due("none", x.can(0), 0);
        CHECK.due("none of all", x.can(1), 0);
        x.lose(1);
        CHECK.due("none of a MISSING one", x.can(1), 0);
        x.see(-1, 0);
        CHECK.due("all of a MISSING one", x.can(1), 65535);
    }

    private static void oddsNo() {
        CHECK.sentence("p19 NO: e (0 .. 10), part.");
        for (int e : Check.outside(0, 10)) {
            no(Twins.FULL, "odds(" + e + ", 0)", x -> x.odds(e, 0), NO);
            no(Twins.FULL, "odds(" + e + ", 1)", x -> x.odds(e, 1), NO);
            no(Twins.EMPTY, "odds(" + e + ", 0)", x -> x.odds(e, 0), NO);
        }
        for (int part : Check.outside(0, 1)) {
            for (Twins.Calls made : Twins.ALL) {
                no(made, "odds(0, " + part + ")", x -> x.odds(0, part), NO);
                no(made, "odds(11, " + part + ")", x -> x.odds(11, part), NO);
            }
        }
        no(Twins.FULL, "the least: odds(0, 0)", x -> x.odds(0, 0), 1);
        no(Twins.FULL, "the greatest: odds(10, 1)", x -> x.odds(10, 1), 1);
    }

    private static void oddsOfNoSets() {
        CHECK.sentence("ODDS of e .. (NO: there are none)");
        for (int nodes = 0; nodes <= 5; nodes++) {
            RepairGroups x = data(nodes);
            for (int e = 0; e <= 10; e++) {
                CHECK.due("odds(" + e + ", 0) of " + nodes, x.odds(e, 0), e > nodes ? NO : e == 0 ? 1 : 0);
                CHECK.due("odds(" + e + ", 1) of " + nodes, x.odds(e, 1), e > nodes ? NO : 1);
            }
        }
    }

    private static void oddsLowest() {
        CHECK.sentence("ODDS of e .. a fraction in lowest terms");
        int[] above = {1, 1, 8, 2, 8, 8, 0, 0, 0, 0, 0};
        int[] below = {1, 1, 9, 3, 21, 63, 1, 1, 1, 1, 1};
        for (int n = 0; n <= 10; n++) {
            int e = n;
            no(Twins.FULL, "odds(" + e + ", 0)", x -> x.odds(e, 0), above[e]);
            no(Twins.FULL, "odds(" + e + ", 1)", x -> x.odds(e, 1), below[e]);
        }
    }

    private static void meanNo() {
        CHECK.sentence("p20 part likewise. NO.");
        for (int part : Check.outside(0, 1)) {
            for (Twins.Calls made : Twins.ALL) {
                no(made, "mean(" + part + ")", x -> x.mean(part), NO);
            }
        }
        no(Twins.EMPTY, "mean(0)", x -> x.mean(0), NO);
        no(Twins.EMPTY, "mean(1)", x -> x.mean(1), NO);
    }

    private static void meanOfNone() {
        CHECK.sentence("MEAN .. (NO: none has)");
        for (int n = 1; n <= 5; n++) {
            CHECK.due("mean(0) of " + n + " DATA", data(n).mean(0), NO);
            CHECK.due("mean(1) of " + n + " DATA", data(n).mean(1), NO);
        }
        RepairGroups x = data(1);
        Check.parity(x, 0, 0, "x0");
        CHECK.due("both have", x.mean(1), 1);
        x.lose(0);
        CHECK.due("a MISSING one has", x.mean(1), 1);
        x.lose(1);
        CHECK.due("none has", x.mean(0), NO);
        CHECK.due("none has, below", x.mean(1), NO);
    }

    private static void meanLowest() {
        CHECK.sentence("MEAN: COSTS of HELP of all NODES that have some, together, by how many these are: a fraction in lowest terms");
        RepairGroups x = new RepairGroups();
        x.data(0, 0);
        Check.parity(x, 0, 0, "x0");
        CHECK.due("2 by 2", x.mean(0), 1);
        CHECK.due("2 by 2, below", x.mean(1), 1);
        x.data(0, 9);
        CHECK.due("one that has none does not count", x.mean(1), 1);
        Check.parity(x, 0, 2, "x0");
        CHECK.due("3 by 3", x.mean(0), 1);
        Check.parity(x, 0, 2, "x1");
        CHECK.due("1, 1, 3, 1, 10 by 5: 16", x.mean(0), 16);
        CHECK.due("below", x.mean(1), 5);
        Check.parity(x, 0, 1, "x1");
        CHECK.due("1, 1, 2, 1, 2, 3 by 6: 10 by 6", x.mean(0), 5);
        CHECK.due("below", x.mean(1), 3);
    }

    private static void meanOfZeros() {
        CHECK.sentence("MEAN of NODES whose HELP is the empty set");
        RepairGroups x = new RepairGroups();
        Check.parity(x, 0, 9, "0*x0");
        CHECK.due("0 by 1", x.mean(0), 0);
        CHECK.due("below", x.mean(1), 1);
        x.data(0, 0);
        Check.parity(x, 0, 0, "x0");
        CHECK.due("0, 1, 1 by 3", x.mean(0), 2);
        CHECK.due("below", x.mean(1), 3);
    }
}
