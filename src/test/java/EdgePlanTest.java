/** Promises 21 to 24 at their edges: a test for each sentence. */
public final class EdgePlanTest {
    private static final Check CHECK = new Check("EdgePlanTest");
    private static final int MAX = Integer.MAX_VALUE, MIN = Integer.MIN_VALUE;

    public static void main(String[] args) {
        planNone();
        planFull();
        planFirstOfTwo();
        emptyThen();
        endsNone();
        endsOfNoPlan();
        loseTwice();
        repairNot();
        numberBecomesZero();
        aheadOfThat();
        byEachKind();
        allTen();
        bookNone();
        bookBad();
        bookFull();
        bookFirstOfTwo();
        bookEmptyThen();
        lookedNone();
        lookedMissing();
        lookedFirst();
        CHECK.end();
    }

    private static void no(Twins.Calls made, String call, Twins.Call it, long want) {
        Twins.unchanged(CHECK, made, call, it, want);
    }

    private static RepairGroups pair(int kind, int v) {
        RepairGroups x = new RepairGroups();
        x.data(kind, v);
        Check.parity(x, 0, 0, "x0");
        return x;
    }

    private static void planNone() {
        CHECK.sentence("p21 NONE: what (0 .. 2), node");
        int[] whats = {-2, 3, 4, -3, 255, 256, MIN, MAX};
        for (int what : whats) {
            no(Twins.RICH, "plan(" + what + ", 0)", x -> x.plan(what, 0), -1);
            no(Twins.FULL, "plan(" + what + ", 0)", x -> x.plan(what, 0), -1);
        }
        for (int w = 0; w <= 2; w++) {
            int what = w;
            no(Twins.EMPTY, "plan(" + what + ", 0)", x -> x.plan(what, 0), -1);
            for (int node : Check.outside(0, 4)) {
                no(Twins.RICH, "plan(" + what + ", " + node + ")", x -> x.plan(what, node), -1);
            }
            for (int node : Check.outside(0, 9)) {
                no(Twins.FULL, "plan(" + what + ", " + node + ")", x -> x.plan(what, node), -1);
            }
        }
        RepairGroups x = new RepairGroups();
        Twins.RICH.on(x);
        CHECK.due("the least: plan(0, 0)", x.plan(0, 0), 4);
        CHECK.due("the greatest: plan(2, 4)", x.plan(2, 4), 5);
    }

    private static void planFull() {
        CHECK.sentence("10 rows at most .. p21 FULL: 10");
        RepairGroups x = pair(0, 0);
        for (int n = 1; n <= 10; n++) {
            CHECK.due("row " + n, x.plan(n % 3, n % 2), n);
        }
        CHECK.due("row 11", x.plan(0, 0), -4);
        CHECK.due("row 11 again", x.plan(2, 1), -4);
        CHECK.due("count(3)", x.count(3), 10);
        for (int w = 0; w <= 2; w++) {
            int what = w;
            no(Twins.FULL, "plan(" + what + ", 9)", y -> y.plan(what, 9), -4);
        }
    }

    private static void planFirstOfTwo() {
        CHECK.sentence("p21 NONE .. FULL: the first that a call's words name");
        no(Twins.FULL, "what ahead of FULL", x -> x.plan(3, 0), -1);
        no(Twins.FULL, "node ahead of FULL", x -> x.plan(0, 10), -1);
        no(Twins.FULL, "both ahead of FULL", x -> x.plan(-2, -1), -1);
    }

    private static void emptyThen() {
        CHECK.sentence("p21 (what -1: it is empty then, 0, whatever the rest is)");
        int[] nodes = {MIN, -1, 0, 9, 10, MAX};
        for (int node : nodes) {
            for (Twins.Calls made : Twins.ALL) {
                RepairGroups x = new RepairGroups();
                made.on(x);
                CHECK.due("plan(-1, " + node + ")", x.plan(-1, node), 0);
                CHECK.due("count(3)", x.count(3), 0);
                CHECK.due("ends(0)", x.ends(0), x.told(2));
                CHECK.due("ends(1)", x.ends(1), 0);
                CHECK.due("plan(-1, " + node + ") again", x.plan(-1, node), 0);
            }
        }
        RepairGroups x = new RepairGroups();
        Twins.FULL.on(x);
        x.plan(-1, 0);
        for (int n = 1; n <= 10; n++) {
            CHECK.due("row " + n + " from the start again", x.plan(0, 0), n);
        }
        CHECK.due("row 11", x.plan(0, 0), -4);
        CHECK.due("SEEN stays", x.count(2), 5);
        CHECK.due("the BOOK stays", x.count(4), 8);
    }

    private static void endsNone() {
        CHECK.sentence("p22 NONE.");
        for (int what : Check.outside(0, 1)) {
            for (Twins.Calls made : Twins.ALL) {
                no(made, "ends(" + what + ")", x -> x.ends(what), -1);
            }
        }
    }

    private static void endsOfNoPlan() {
        CHECK.sentence("ENDS of an empty PLAN: who is MISSING now, and no COSTS");
        no(Twins.EMPTY, "ends(0)", x -> x.ends(0), 0);
        no(Twins.EMPTY, "ends(1)", x -> x.ends(1), 0);
        Twins.Calls lost = x -> {
            Twins.RICH.on(x);
            x.plan(-1, 0);
            x.lose(0);
        };
        no(lost, "ends(0)", x -> x.ends(0), 9);
        no(lost, "ends(1)", x -> x.ends(1), 0);
    }

    private static void loseTwice() {
        CHECK.sentence("0 NODE n is MISSING: also one that is already");
        RepairGroups x = pair(0, 3);
        x.lose(0);
        x.plan(0, 0);
        CHECK.due("ends(0)", x.ends(0), 1);
        x.plan(0, 0);
        x.plan(0, 1);
        CHECK.due("ends(0), both", x.ends(0), 3);
        CHECK.due("ends(1)", x.ends(1), 0);
        CHECK.due("told(2)", x.told(2), 1);
    }

    private static void repairNot() {
        CHECK.sentence("1 NODE n is REPAIRED, if it is MISSING and has HELP");
        RepairGroups x = pair(0, 3);
        x.plan(1, 1);
        CHECK.due("THERE: ends(1)", x.ends(1), 0);
        CHECK.due("THERE: ends(0)", x.ends(0), 0);
        x.plan(0, 0);
        x.plan(0, 1);
        x.plan(1, 1);
        CHECK.due("no HELP: ends(1)", x.ends(1), 0);
        CHECK.due("no HELP: ends(0)", x.ends(0), 3);
        RepairGroups y = pair(0, 3);
        y.plan(0, 1);
        y.plan(1, 1);
        y.plan(1, 1);
        CHECK.due("once: ends(1)", y.ends(1), 4);
        CHECK.due("once: ends(0)", y.ends(0), 0);
        RepairGroups z = new RepairGroups();
        Check.parity(z, 0, 9, "0*x0");
        z.plan(0, 0);
        z.plan(1, 0);
        CHECK.due("by no others: ends(0)", z.ends(0), 0);
        CHECK.due("by no others: ends(1)", z.ends(1), 0);
    }

    private static void numberBecomesZero() {
        CHECK.sentence("2 v of NODE n is 0");
        int[] kinds = {0, 1, 2, 3, 4, 5, 6};
        int[] was = {10, 5, 20, 10, 5, 20, 10};
        int[] then = {1, 1, 2, 1, 1, 2, 1};
        for (int kind : kinds) {
            RepairGroups x = pair(kind, 9);
            x.plan(0, 1);
            x.plan(1, 1);
            CHECK.due("KIND " + kind + ", v 9: ends(1)", x.ends(1), was[kind]);
            x.plan(-1, 0);
            x.plan(2, 0);
            x.plan(0, 1);
            x.plan(1, 1);
            CHECK.due("KIND " + kind + ", v 0: ends(1)", x.ends(1), then[kind]);
            CHECK.due("its v stays", x.of(0, 1), 9);
            x.plan(2, 0);
            CHECK.due("0 again: ends(1)", x.ends(1), then[kind]);
        }
        RepairGroups x = pair(0, 9);
        x.lose(0);
        x.plan(2, 0);
        x.plan(1, 0);
        x.plan(0, 1);
        x.plan(1, 1);
        CHECK.due("of a MISSING one: ends(1)", x.ends(1), 2);
    }

    private static void aheadOfThat() {
        CHECK.sentence("COSTS of all HELPS by which some were REPAIRED, as they were ahead of that, together");
        int[] busy = {1, 3, 6, 10, 15};
        int[] cached = {5, 6, 11, 12, 17};
        RepairGroups x = pair(3, 0);
        RepairGroups y = pair(4, 9);
        for (int n = 0; n < 5; n++) {
            x.plan(0, 1);
            x.plan(1, 1);
            y.plan(0, 1);
            y.plan(1, 1);
            CHECK.due("BUSY, REPAIRED " + (n + 1) + " times", x.ends(1), busy[n]);
            CHECK.due("CACHED, REPAIRED " + (n + 1) + " times", y.ends(1), cached[n]);
        }
        RepairGroups z = pair(6, 0);
        for (int part = 0; part < 4; part++) {
            z.row(0, part, 9 - part);
        }
        for (int n = 0; n < 5; n++) {
            z.plan(0, 1);
            z.plan(1, 1);
        }
        CHECK.due("TOLD: 1 + 9, 2 + 8, 3 + 7, 4 + 6, 5 + 9", z.ends(1), 54);
        CHECK.due("READS stay", z.of(0, 3), 0);
    }

    /** The KIND's own node is the PARITY, and the DATA is REPAIRED by it. */
    private static void byEachKind() {
        CHECK.sentence("COSTS of all HELPS: of each KIND, of a PARITY, too");
        int[] least = {1, 1, 2, 1, 1, 7, 1};
        int[] greatest = {10, 5, 20, 10, 5, 25, 10};
        for (int kind = 0; kind <= 6; kind++) {
            for (int v = 0; v <= 9; v += 9) {
                RepairGroups x = new RepairGroups();
                x.data(0, 4);
                Check.parity(x, kind, v, "x0");
                x.plan(0, 0);
                x.plan(1, 0);
                CHECK.due("a PARITY of KIND " + kind + ", v " + v, x.ends(1), v == 0 ? least[kind] : greatest[kind]);
                x.plan(0, 1);
                x.plan(1, 1);
                CHECK.due("and back", x.ends(1), (v == 0 ? least[kind] : greatest[kind]) + 5);
            }
        }
        RepairGroups x = new RepairGroups();
        x.data(0, 1);
        x.data(1, 9);
        x.data(2, 1);
        Check.parity(x, 5, 1, "x0+x1+x2");
        int[] costs = {18, 15, 16, 11};
        for (int node = 0; node < 4; node++) {
            x.plan(-1, 0);
            x.plan(0, node);
            x.plan(1, node);
            CHECK.due("three that cost 2, 5, 4 or 9: node " + node, x.ends(1), costs[node]);
        }
    }

    private static void allTen() {
        CHECK.sentence("10 rows at most: the last is done, too");
        RepairGroups x = pair(0, 0);
        for (int n = 0; n < 9; n++) {
            x.plan(2, 0);
        }
        CHECK.due("row 10", x.plan(0, 1), 10);
        CHECK.due("ends(0)", x.ends(0), 2);
        no(Twins.FULL, "ends(0)", y -> y.ends(0), 512 + 64 + 8 + 1);
    }

    private static void bookNone() {
        CHECK.sentence("p23 NONE");
        no(Twins.EMPTY, "book(0, 0)", x -> x.book(0, 0), -1);
        int[] rich = {-2, 5, 9, 10, -6, 31, 32, 256, MIN, MIN + 1, MAX};
        for (int node : rich) {
            no(Twins.RICH, "book(" + node + ", 0)", x -> x.book(node, 0), -1);
        }
        int[] full = {-2, 10, 11, 32, MIN, MAX};
        for (int node : full) {
            no(Twins.FULL, "book(" + node + ", 0)", x -> x.book(node, 0), -1);
        }
        RepairGroups x = new RepairGroups();
        Twins.RICH.on(x);
        CHECK.due("the last: book(4, 0)", x.book(4, 0), 4);
        CHECK.due("the least: book(0, 0)", x.book(0, 0), 5);
    }

    private static void bookBad() {
        CHECK.sentence("SYMBOLS (0 .. 15 .. p23 BAD: symbol");
        for (int symbol : Check.outside(0, 15)) {
            no(Twins.RICH, "book(0, " + symbol + ")", x -> x.book(0, symbol), -2);
            no(Twins.RICH, "book(3, " + symbol + "), MISSING", x -> x.book(3, symbol), -2);
        }
        RepairGroups x = pair(0, 0);
        x.write(0, 15);
        CHECK.due("the greatest: book(0, 15)", x.book(0, 15), 1);
        CHECK.due("looked()", x.looked(), -5);
        CHECK.due("the least: book(0, 0)", x.book(0, 0), 2);
        CHECK.due("looked()", x.looked(), 1);
    }

    private static void bookFull() {
        CHECK.sentence("8 at most .. p23 FULL: 8");
        RepairGroups x = pair(0, 0);
        for (int n = 1; n <= 8; n++) {
            CHECK.due("row " + n, x.book(0, 0), n);
        }
        CHECK.due("row 9", x.book(0, 0), -4);
        CHECK.due("row 9, another", x.book(1, 15), -4);
        CHECK.due("count(4)", x.count(4), 8);
        CHECK.due("looked()", x.looked(), -5);
        no(Twins.FULL, "book(9, 15)", y -> y.book(9, 15), -4);
    }

    private static void bookFirstOfTwo() {
        CHECK.sentence("p23 NONE; BAD .. FULL: the first that a call's words name");
        no(Twins.RICH, "node ahead of symbol", x -> x.book(5, 16), -1);
        no(Twins.EMPTY, "node ahead of symbol, no NODES", x -> x.book(0, -1), -1);
        no(Twins.FULL, "node ahead of FULL", x -> x.book(10, 0), -1);
        no(Twins.FULL, "symbol ahead of FULL", x -> x.book(0, 16), -2);
        no(Twins.FULL, "symbol below ahead of FULL", x -> x.book(0, -1), -2);
        no(Twins.FULL, "node ahead of symbol and FULL", x -> x.book(-2, 16), -1);
    }

    private static void bookEmptyThen() {
        CHECK.sentence("p23 (node -1: it is empty then, 0, whatever the rest is)");
        int[] symbols = {MIN, -1, 0, 15, 16, MAX};
        for (int symbol : symbols) {
            for (Twins.Calls made : Twins.ALL) {
                RepairGroups x = new RepairGroups();
                made.on(x);
                CHECK.due("book(-1, " + symbol + ")", x.book(-1, symbol), 0);
                CHECK.due("count(4)", x.count(4), 0);
                CHECK.due("looked()", x.looked(), -5);
                CHECK.due("book(-1, " + symbol + ") again", x.book(-1, symbol), 0);
            }
        }
        RepairGroups x = new RepairGroups();
        Twins.FULL.on(x);
        x.book(-1, 0);
        for (int n = 1; n <= 8; n++) {
            CHECK.due("row " + n + " from the start again", x.book(0, 1), n);
        }
        CHECK.due("row 9", x.book(0, 1), -4);
        CHECK.due("SEEN stays", x.count(2), 5);
        CHECK.due("the PLAN stays", x.count(3), 10);
    }

    private static void lookedNone() {
        CHECK.sentence("LOOKED at .. (-5: none)");
        no(Twins.EMPTY, "looked()", x -> x.looked(), -5);
        RepairGroups x = pair(0, 0);
        CHECK.due("an empty BOOK", x.looked(), -5);
        for (int n = 0; n < 8; n++) {
            x.book(n % 2, 0);
            CHECK.due("all is so", x.looked(), -5);
        }
    }

    private static void lookedMissing() {
        CHECK.sentence("by which it is otherwise now (MISSING, too");
        RepairGroups x = pair(0, 0);
        for (int symbol = 0; symbol <= 15; symbol++) {
            x.write(0, symbol);
            x.book(-1, 0);
            x.book(1, symbol);
            CHECK.due("THERE: looked()", x.looked(), -5);
            x.lose(1);
            CHECK.due("MISSING: looked()", x.looked(), 0);
            x.repair(1);
            CHECK.due("REPAIRED: looked()", x.looked(), -5);
        }
    }

    private static void lookedFirst() {
        CHECK.sentence("the number (from 0) of the first of these rows");
        for (int at = 0; at < 8; at++) {
            RepairGroups x = pair(0, 0);
            for (int n = 0; n < 8; n++) {
                x.book(0, n < at ? 0 : 1);
            }
            CHECK.due("the first that is otherwise: row " + at, x.looked(), at);
        }
        no(Twins.FULL, "looked()", x -> x.looked(), 5);
    }
}
