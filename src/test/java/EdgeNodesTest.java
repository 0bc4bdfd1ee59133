/** Promises 4, 7 to 11 and 28, KINDS and COST, HELP and REPAIRED at their edges: a test for each sentence. */
public final class EdgeNodesTest {
    private static final Check CHECK = new Check("EdgeNodesTest");
    private static final int MAX = Integer.MAX_VALUE, MIN = Integer.MIN_VALUE;

    public static void main(String[] args) {
        dataKinds();
        dataNumbers();
        fiveData();
        dataFirstOfTwo();
        nodesZeroToNine();
        ownForm();
        symbolAsItComes();
        rowNone();
        rowBad();
        rowOtherKind();
        rowFirstOfTwo();
        rowWas();
        ofNone();
        ofMissingAndNone();
        costNode();
        costNear();
        costFar();
        costBusy();
        costCached();
        costDeep();
        costTold();
        readsAtFirst();
        writeNone();
        writeBad();
        writeMissing();
        writeFirstOfTwo();
        loseNone();
        loseAgain();
        repairNone();
        repairNot();
        readsByHelp();
        helpOfThoseThere();
        helpLeastCosts();
        helpLeastBits();
        helpNone();
        localEdges();
        takenBad();
        takenNothing();
        takenCast();
        takenFirstOfTwo();
        CHECK.end();
    }

    private static void no(Twins.Calls made, String call, Twins.Call it, long want) {
        Twins.unchanged(CHECK, made, call, it, want);
    }

    // ---- data

    private static void dataKinds() {
        CHECK.sentence("p4 NONE: kind");
        for (int kind : Check.outside(0, 6)) {
            for (Twins.Calls made : Twins.ALL) {
                no(made, "data(" + kind + ", 0)", x -> x.data(kind, 0), -1);
            }
        }
        RepairGroups x = new RepairGroups();
        CHECK.due("the least: data(0, 0)", x.data(0, 0), 0);
        CHECK.due("the greatest: data(6, 0)", x.data(6, 0), 1);
        CHECK.due("its KIND", x.of(1, 0), 6);
    }

    private static void dataNumbers() {
        CHECK.sentence("with a number v (0 .. 9) .. p4 BAD: v");
        for (int v : Check.outside(0, 9)) {
            for (Twins.Calls made : Twins.ALL) {
                no(made, "data(6, " + v + ")", x -> x.data(6, v), -2);
            }
        }
        RepairGroups x = new RepairGroups();
        CHECK.due("the least: data(0, 0)", x.data(0, 0), 0);
        CHECK.due("the greatest: data(0, 9)", x.data(0, 9), 1);
        CHECK.due("its v", x.of(1, 1), 9);
    }

    private static void fiveData() {
        CHECK.sentence("DATA (5 at most) .. p4 FULL: 5");
        RepairGroups x = new RepairGroups();
        for (int n = 0; n < 5; n++) {
            CHECK.due("PARITY " + n, Check.parity(x, 0, 0, "x0"), n);
        }
        for (int n = 1; n <= 5; n++) {
            CHECK.due("DATA " + n + ", five PARITIES ahead", x.data(0, 0), 4 + n);
        }
        CHECK.due("DATA 6", x.data(0, 0), -4);
        CHECK.due("count(1)", x.count(1), 5);
        no(Twins.FULL, "data(0, 0)", y -> y.data(0, 0), -4);
        no(Twins.FULL, "data(6, 9)", y -> y.data(6, 9), -4);
        Twins.Calls five = y -> {
            for (int n = 0; n < 5; n++) {
                y.data(0, 0);
            }
        };
        no(five, "data(0, 0), no PARITIES", y -> y.data(0, 0), -4);
    }

    private static void dataFirstOfTwo() {
        CHECK.sentence("p4 NONE .. BAD .. FULL: the first that a call's words name");
        no(Twins.RICH, "kind ahead of v", x -> x.data(7, 10), -1);
        no(Twins.RICH, "kind ahead of v, both below", x -> x.data(-1, -1), -1);
        no(Twins.FULL, "kind ahead of FULL", x -> x.data(7, 9), -1);
        no(Twins.FULL, "v ahead of FULL", x -> x.data(6, 10), -2);
        no(Twins.FULL, "kind ahead of v and FULL", x -> x.data(MIN, MIN), -1);
    }

    private static void nodesZeroToNine() {
        CHECK.sentence("NODES 0 .. 9, as they come .. DATA 0, 1, .. as they come");
        RepairGroups x = new RepairGroups();
        for (int n = 0; n < 5; n++) {
            CHECK.due("data", x.data(0, 0), 2 * n);
            CHECK.due("parity", Check.parity(x, 0, 0, "x0"), 2 * n + 1);
        }
        for (int node = 0; node <= 9; node++) {
            CHECK.due("of(" + node + ", 2)", x.of(node, 2), node % 2 == 0 ? node / 2 : -5);
        }
        CHECK.due("of(10, 2)", x.of(10, 2), -1);
        CHECK.due("count(0)", x.count(0), 10);
        CHECK.due("rank(1023)", x.rank(1023), 5);
    }

    private static void ownForm() {
        CHECK.sentence("that of DATA d: 1 for d, 0 for others");
        RepairGroups x = new RepairGroups();
        for (int d = 0; d < 5; d++) {
            x.data(0, 0);
            for (int other = 0; other < 5; other++) {
                CHECK.due("of(" + d + ", 1" + other + ")", x.of(d, 10 + other), other == d ? 1 : 0);
            }
        }
    }

    private static void symbolAsItComes() {
        CHECK.sentence("The SYMBOL of a DATA is 0 as it comes .. (DATA that haven't come: 0)");
        RepairGroups x = new RepairGroups();
        Check.parity(x, 0, 0, "x0+x1");
        CHECK.due("of(0, 5)", x.of(0, 5), 0);
        x.data(0, 0);
        CHECK.due("of(1, 5)", x.of(1, 5), 0);
        x.write(0, 7);
        CHECK.due("of(0, 5) by DATA 0 alone", x.of(0, 5), 7);
        x.image();
        x.data(0, 0);
        x.write(1, 9);
        x.undo();
        x.data(0, 0);
        CHECK.due("of(2, 5) as it comes once more", x.of(2, 5), 0);
        CHECK.due("of(0, 5)", x.of(0, 5), 7);
        CHECK.due("write(1, 1)", x.write(1, 1), 0);
    }

    // ---- row

    private static void rowNone() {
        CHECK.sentence("p7 NONE: node, part");
        for (int node : Check.outside(0, 4)) {
            no(Twins.RICH, "row(" + node + ", 0, 0)", x -> x.row(node, 0, 0), -1);
        }
        for (int node : Check.outside(0, 9)) {
            no(Twins.FULL, "row(" + node + ", 0, 0)", x -> x.row(node, 0, 0), -1);
        }
        no(Twins.EMPTY, "row(0, 0, 0)", x -> x.row(0, 0, 0), -1);
        no(Twins.EMPTY, "row(-1, 0, 0)", x -> x.row(-1, 0, 0), -1);
        for (int part : Check.outside(0, 3)) {
            no(Twins.RICH, "row(0, " + part + ", 0)", x -> x.row(0, part, 0), -1);
            no(Twins.RICH, "row(4, " + part + ", 9)", x -> x.row(4, part, 9), -1);
        }
        RepairGroups x = new RepairGroups();
        x.data(6, 0);
        CHECK.due("the least: row(0, 0, 1)", x.row(0, 0, 1), 0);
        CHECK.due("the greatest: row(0, 3, 1)", x.row(0, 3, 1), 0);
    }

    private static void rowBad() {
        CHECK.sentence("p7 n (0 .. 9) .. BAD");
        for (int n : Check.outside(0, 9)) {
            no(Twins.RICH, "row(0, 0, " + n + ")", x -> x.row(0, 0, n), -2);
            no(Twins.RICH, "row(4, 3, " + n + ")", x -> x.row(4, 3, n), -2);
        }
        RepairGroups x = new RepairGroups();
        x.data(6, 0);
        CHECK.due("the greatest: row(0, 0, 9)", x.row(0, 0, 9), 0);
        CHECK.due("the least: row(0, 0, 0)", x.row(0, 0, 0), 9);
        CHECK.due("then: row(0, 0, 5)", x.row(0, 0, 5), 0);
    }

    private static void rowOtherKind() {
        CHECK.sentence("p7 STATE: another KIND");
        for (int k = 0; k <= 5; k++) {
            int kind = k;
            no(x -> x.data(kind, 0), "row of KIND " + kind, x -> x.row(0, 0, 0), -3);
            no(x -> Check.parity(x, kind, 0, "x0"), "row of a PARITY of KIND " + kind, x -> x.row(0, 3, 9), -3);
        }
        RepairGroups x = new RepairGroups();
        Check.parity(x, 6, 0, "x0");
        x.data(6, 0);
        x.lose(1);
        CHECK.due("row of a TOLD PARITY", x.row(0, 0, 1), 0);
        CHECK.due("row of a TOLD one that is MISSING", x.row(1, 0, 1), 0);
    }

    private static void rowFirstOfTwo() {
        CHECK.sentence("p7 NONE .. BAD .. STATE: the first that a call's words name");
        no(Twins.RICH, "node ahead of n", x -> x.row(5, 0, 10), -1);
        no(Twins.RICH, "part ahead of n", x -> x.row(0, 4, 10), -1);
        no(Twins.RICH, "part ahead of the KIND", x -> x.row(1, 4, 0), -1);
        no(Twins.RICH, "part ahead of n and the KIND", x -> x.row(1, -1, -1), -1);
        no(Twins.RICH, "n ahead of the KIND", x -> x.row(1, 0, 10), -2);
        no(Twins.RICH, "n below ahead of the KIND", x -> x.row(2, 3, -1), -2);
    }

    private static void rowWas() {
        CHECK.sentence("its ROW (four numbers 0 .. 9; 0 at first) .. p7 what it was");
        RepairGroups x = new RepairGroups();
        x.data(6, 0);
        x.data(6, 0);
        for (int part = 0; part < 4; part++) {
            CHECK.due("row(0, " + part + ", " + (9 - part) + ")", x.row(0, part, 9 - part), 0);
        }
        for (int part = 0; part < 4; part++) {
            CHECK.due("row(0, " + part + ", 0)", x.row(0, part, 0), 9 - part);
            CHECK.due("the other's", x.row(1, part, 0), 0);
        }
    }

    // ---- of

    private static void ofNone() {
        CHECK.sentence("p8 NONE.");
        for (int node : Check.outside(0, 4)) {
            no(Twins.RICH, "of(" + node + ", 0)", x -> x.of(node, 0), -1);
        }
        for (int node : Check.outside(0, 9)) {
            no(Twins.FULL, "of(" + node + ", 5)", x -> x.of(node, 5), -1);
        }
        for (int w = 0; w <= 14; w++) {
            int what = w;
            no(Twins.EMPTY, "of(0, " + what + ")", x -> x.of(0, what), -1);
            CHECK.due("of(5, " + what + ")", new RepairGroups().of(5, what), -1);
        }
        int[] whats = {-1, -5, 9, 15, 16, 42, 10 + 256, MIN, MIN + 10, MAX, MAX - 5};
        for (int what : whats) {
            no(Twins.RICH, "of(0, " + what + ")", x -> x.of(0, what), -1);
            no(Twins.RICH, "of(3, " + what + "), MISSING", x -> x.of(3, what), -1);
        }
        no(Twins.RICH, "the least: of(0, 0)", x -> x.of(0, 0), 6);
        no(Twins.RICH, "8 is one", x -> x.of(0, 8), 3);
        no(Twins.RICH, "10 is one", x -> x.of(2, 10), 1);
        no(Twins.RICH, "the greatest: of(2, 14)", x -> x.of(2, 14), 1);
    }

    private static void ofMissingAndNone() {
        CHECK.sentence("p8 (-5: a PARITY) .. (-5: MISSING) .. (bits; -5: none) .. COSTS of HELP (-5) .. LOCAL (-5)");
        RepairGroups x = new RepairGroups();
        x.data(0, 0);
        Check.parity(x, 0, 0, "x0+x1");
        CHECK.due("of(0, 2)", x.of(0, 2), 0);
        CHECK.due("of(1, 2)", x.of(1, 2), -5);
        CHECK.due("of(0, 5)", x.of(0, 5), 0);
        x.lose(0);
        CHECK.due("of(0, 5), MISSING", x.of(0, 5), -5);
        CHECK.due("of(1, 5)", x.of(1, 5), 0);
        for (int what = 6; what <= 8; what++) {
            CHECK.due("of(0, " + what + ")", x.of(0, what), -5);
            CHECK.due("of(1, " + what + ")", x.of(1, what), -5);
        }
        CHECK.due("KIND of a MISSING one", x.of(0, 0), 0);
        CHECK.due("COST of a MISSING one", x.of(0, 4), 1);
        CHECK.due("the number of a MISSING one", x.of(0, 10), 1);
    }

    // ---- COST

    /** Node 0 of a KIND, read n times: it alone tells node 1, by which it is no PARITY, or one. */
    private static RepairGroups read(int kind, int v, boolean isParity, int n) {
        RepairGroups x = new RepairGroups();
        if (isParity) {
            Check.parity(x, kind, v, "x0");
            x.data(0, 0);
        } else {
            x.data(kind, v);
            Check.parity(x, 0, 0, "x0");
        }
        for (int i = 0; i < n; i++) {
            x.lose(1);
            x.repair(1);
        }
        CHECK.due("READS", x.of(0, 3), n);
        return x;
    }

    private static void costs(int kind, boolean isParity, int reads, int... want) {
        for (int v = 0; v < want.length; v++) {
            String of = "COST of KIND " + kind + (isParity ? ", a PARITY" : "") + ", v " + v + ", READS " + reads;
            CHECK.due(of, read(kind, v, isParity, reads).of(0, 4), want[v]);
        }
    }

    private static void costNode() {
        CHECK.sentence("COST: NODE: v and 1.");
        costs(0, false, 0, 1, 2, 3, 4, 5, 6, 7, 8, 9, 10);
        costs(0, true, 0, 1, 2, 3, 4, 5, 6, 7, 8, 9, 10);
        costs(0, false, 11, 1, 2, 3, 4, 5, 6, 7, 8, 9, 10);
    }

    private static void costNear() {
        CHECK.sentence("NEAR: half (cut) of a NODE's, 1 at least.");
        costs(1, false, 0, 1, 1, 1, 2, 2, 3, 3, 4, 4, 5);
        costs(1, true, 0, 1, 1, 1, 2, 2, 3, 3, 4, 4, 5);
        costs(1, false, 1, 1, 1, 1, 2, 2, 3, 3, 4, 4, 5);
    }

    private static void costFar() {
        CHECK.sentence("FAR: twice a NODE's.");
        costs(2, false, 0, 2, 4, 6, 8, 10, 12, 14, 16, 18, 20);
        costs(2, true, 0, 2, 4, 6, 8, 10, 12, 14, 16, 18, 20);
        costs(2, false, 3, 2, 4, 6, 8, 10, 12, 14, 16, 18, 20);
    }

    private static void costBusy() {
        CHECK.sentence("BUSY: as NODE, and READS (9 at most).");
        for (int reads = 0; reads <= 20; reads++) {
            int more = reads > 9 ? 9 : reads;
            costs(3, false, reads, 1 + more, 2 + more);
            CHECK.due("v 9, READS " + reads, read(3, 9, true, reads).of(0, 4), 10 + more);
        }
    }

    private static void costCached() {
        CHECK.sentence("CACHED: as NEAR; 1, if READS is odd.");
        costs(4, false, 0, 1, 1, 1, 2, 2, 3, 3, 4, 4, 5);
        costs(4, false, 1, 1, 1, 1, 1, 1, 1, 1, 1, 1, 1);
        costs(4, false, 2, 1, 1, 1, 2, 2, 3, 3, 4, 4, 5);
        costs(4, true, 3, 1, 1, 1, 1, 1, 1, 1, 1, 1, 1);
        costs(4, true, 10, 1, 1, 1, 2, 2, 3, 3, 4, 4, 5);
        costs(4, true, 11, 1, 1, 1, 1, 1, 1, 1, 1, 1, 1);
    }

    private static void costDeep() {
        CHECK.sentence("DEEP: as FAR, and 5, if it is a PARITY.");
        costs(5, false, 0, 2, 4, 6, 8, 10, 12, 14, 16, 18, 20);
        costs(5, true, 0, 7, 9, 11, 13, 15, 17, 19, 21, 23, 25);
        costs(5, true, 5, 7, 9, 11, 13, 15, 17, 19, 21, 23, 25);
    }

    private static void costTold() {
        CHECK.sentence("TOLD: as BUSY, and its ROW .. at READS modulo 4.");
        int[] row = {1, 9, 0, 5};
        for (int reads = 0; reads <= 17; reads++) {
            for (int v = 0; v <= 9; v += 9) {
                RepairGroups x = read(6, v, reads % 2 == 0, reads);
                int busy = v + 1 + (reads > 9 ? 9 : reads);
                CHECK.due("v " + v + ", READS " + reads + ", ROW 0", x.of(0, 4), busy);
                for (int part = 0; part < 4; part++) {
                    x.row(0, part, row[part]);
                }
                CHECK.due("v " + v + ", READS " + reads, x.of(0, 4), busy + row[reads % 4]);
            }
        }
        CHECK.due("of BUSY no ROW comes to it", read(3, 2, false, 1).of(0, 4), 4);
    }

    private static void readsAtFirst() {
        CHECK.sentence("READS (0 .. 9999; 0 at first)");
        RepairGroups x = new RepairGroups();
        x.data(0, 0);
        Check.parity(x, 0, 0, "x0");
        CHECK.due("of(0, 3)", x.of(0, 3), 0);
        CHECK.due("of(1, 3)", x.of(1, 3), 0);
        CHECK.due("after 220", read(3, 0, false, 220).of(0, 3), 220);
    }

    // ---- write, lose, repair

    private static void writeNone() {
        CHECK.sentence("p9 NONE: no such DATA");
        no(Twins.EMPTY, "write(0, 0)", x -> x.write(0, 0), -1);
        for (int data : Check.outside(0, 2)) {
            no(Twins.RICH, "write(" + data + ", 0)", x -> x.write(data, 0), -1);
        }
        for (int data : Check.outside(0, 4)) {
            no(Twins.FULL, "write(" + data + ", 15)", x -> x.write(data, 15), -1);
        }
        no(x -> Check.parity(x, 0, 0, "x0"), "write(0, 0), a PARITY alone", x -> x.write(0, 0), -1);
        RepairGroups x = new RepairGroups();
        for (int d = 0; d < 5; d++) {
            CHECK.due("write(" + d + ", 1) ahead of it", x.write(d, 1), -1);
            x.data(0, 0);
            CHECK.due("write(" + d + ", 1)", x.write(d, 1), 0);
        }
    }

    private static void writeBad() {
        CHECK.sentence("p9 a SYMBOL (0 .. 15) .. BAD");
        for (int symbol : Check.outside(0, 15)) {
            no(Twins.RICH, "write(0, " + symbol + ")", x -> x.write(0, symbol), -2);
            no(Twins.FULL, "write(4, " + symbol + ")", x -> x.write(4, symbol), -2);
        }
        RepairGroups x = new RepairGroups();
        x.data(0, 0);
        CHECK.due("the greatest: write(0, 15)", x.write(0, 15), 0);
        CHECK.due("the least: write(0, 0)", x.write(0, 0), 15);
        CHECK.due("of(0, 5)", x.of(0, 5), 0);
    }

    private static void writeMissing() {
        CHECK.sentence("p9 STATE: it is MISSING.");
        no(Twins.RICH, "write(2, 1)", x -> x.write(2, 1), -3);
        no(Twins.RICH, "write(2, 12), what it is", x -> x.write(2, 12), -3);
        RepairGroups x = new RepairGroups();
        Check.parity(x, 0, 0, "x0");
        x.data(0, 0);
        x.lose(0);
        CHECK.due("node 0 is no DATA: write(0, 4)", x.write(0, 4), 0);
        x.repair(0);
        x.lose(1);
        CHECK.due("node 1 is DATA 0: write(0, 5)", x.write(0, 5), -3);
        CHECK.due("the PARITY by what was written", x.of(0, 5), 4);
        CHECK.due("repair(1)", x.repair(1), 4);
        CHECK.due("write(0, 5) then", x.write(0, 5), 4);
    }

    private static void writeFirstOfTwo() {
        CHECK.sentence("p9 NONE .. BAD .. STATE: the first that a call's words name");
        no(Twins.RICH, "data ahead of symbol", x -> x.write(3, 16), -1);
        no(Twins.RICH, "data below ahead of symbol", x -> x.write(-1, -1), -1);
        no(Twins.RICH, "symbol ahead of MISSING", x -> x.write(2, 16), -2);
        no(Twins.RICH, "symbol below ahead of MISSING", x -> x.write(2, -1), -2);
    }

    private static void loseNone() {
        CHECK.sentence("p10 NONE");
        no(Twins.EMPTY, "lose(0)", x -> x.lose(0), -1);
        for (int node : Check.outside(0, 4)) {
            no(Twins.RICH, "lose(" + node + ")", x -> x.lose(node), -1);
        }
        for (int node : Check.outside(0, 9)) {
            no(Twins.FULL, "lose(" + node + ")", x -> x.lose(node), -1);
        }
        RepairGroups x = new RepairGroups();
        Twins.FULL.on(x);
        CHECK.due("the least: lose(0)", x.lose(0), 1);
        CHECK.due("the last: lose(8)", x.lose(8), 10);
        CHECK.due("told(2)", x.told(2), 512 + 256 + 1);
    }

    private static void loseAgain() {
        CHECK.sentence("p10 STATE: it is already.");
        no(Twins.RICH, "lose(3)", x -> x.lose(3), -3);
        no(Twins.FULL, "lose(9)", x -> x.lose(9), -3);
        RepairGroups x = new RepairGroups();
        x.data(0, 0);
        x.write(0, 15);
        CHECK.due("lose(0)", x.lose(0), 15);
        CHECK.due("lose(0) again", x.lose(0), -3);
        CHECK.due("told(2)", x.told(2), 1);
    }

    private static void repairNone() {
        CHECK.sentence("p11 NONE");
        no(Twins.EMPTY, "repair(0)", x -> x.repair(0), -1);
        for (int node : Check.outside(0, 4)) {
            no(Twins.RICH, "repair(" + node + ")", x -> x.repair(node), -1);
        }
        for (int node : Check.outside(0, 9)) {
            no(Twins.FULL, "repair(" + node + ")", x -> x.repair(node), -1);
        }
    }

    private static void repairNot() {
        CHECK.sentence("p11 STATE: it isn't MISSING, or has no HELP.");
        for (int n = 0; n <= 4; n++) {
            int node = n;
            if (node != 3) {
                no(Twins.RICH, "repair(" + node + "), THERE", x -> x.repair(node), -3);
            }
        }
        Twins.Calls lost = x -> {
            Twins.RICH.on(x);
            x.lose(4);
        };
        no(lost, "repair(3), no HELP", x -> x.repair(3), -3);
        no(lost, "repair(4), no HELP", x -> x.repair(4), -3);
        no(x -> {
            x.data(0, 0);
            x.lose(0);
        }, "repair(0), no others", x -> x.repair(0), -3);
        RepairGroups x = new RepairGroups();
        Twins.RICH.on(x);
        CHECK.due("repair(3), MISSING with HELP", x.repair(3), 12);
        CHECK.due("repair(3) again", x.repair(3), -3);
    }

    private static void readsByHelp() {
        CHECK.sentence("READS of each of its HELP is 1 more");
        RepairGroups x = new RepairGroups();
        x.data(0, 0);
        x.data(0, 0);
        Check.parity(x, 0, 9, "x0+x1");
        Check.parity(x, 0, 0, "x0+x1");
        x.lose(0);
        CHECK.due("HELP", x.of(0, 6), 2 + 8);
        CHECK.due("repair(0)", x.repair(0), 0);
        int[] want = {0, 1, 0, 1};
        for (int node = 0; node < 4; node++) {
            CHECK.due("READS of " + node, x.of(node, 3), want[node]);
        }
        CHECK.due("repair(0), THERE", x.repair(0), -3);
        for (int node = 0; node < 4; node++) {
            CHECK.due("READS of " + node + " then", x.of(node, 3), want[node]);
        }
    }

    private static void helpOfThoseThere() {
        CHECK.sentence("HELP of a NODE: of all sets of others that are THERE and TELL it");
        RepairGroups x = new RepairGroups();
        x.data(0, 0);
        Check.parity(x, 0, 0, "x0");
        Check.parity(x, 0, 5, "2*x0");
        CHECK.due("HELP of one that is THERE", x.of(0, 6), 2);
        x.lose(1);
        CHECK.due("without the MISSING one", x.of(0, 6), 4);
        CHECK.due("COSTS", x.of(0, 7), 6);
        x.lose(2);
        CHECK.due("none is THERE", x.of(0, 6), -5);
        x.lose(0);
        CHECK.due("nor it itself", x.of(0, 6), -5);
        CHECK.due("MISSING ones tell it still", x.of(0, 8), 1);
    }

    private static void helpLeastCosts() {
        CHECK.sentence("whose COSTS, together, are least");
        RepairGroups x = new RepairGroups();
        x.data(0, 1);
        x.data(1, 9);
        x.data(2, 1);
        Check.parity(x, 5, 1, "x0+x1+x2");
        int[] costs = {18, 15, 16, 11};
        for (int node = 0; node < 4; node++) {
            CHECK.due("HELP of " + node, x.of(node, 6), 15 - (1 << node));
            CHECK.due("2, 5, 4 and 9 without its own", x.of(node, 7), costs[node]);
        }
        Check.parity(x, 0, 9, "x0+x1");
        CHECK.due("10 and 4, not 11: node 3", x.of(3, 6), 7);
        CHECK.due("9 and 4, or 5 and 2: node 4", x.of(4, 6), 3);
        CHECK.due("COSTS", x.of(4, 7), 7);
        Check.parity(x, 1, 0, "x0+x1");
        CHECK.due("1 and 4: node 3", x.of(3, 6), 36);
        CHECK.due("COSTS", x.of(3, 7), 5);
        CHECK.due("1: node 4", x.of(4, 6), 32);
        CHECK.due("1 and 5: node 0", x.of(0, 6), 34);
        RepairGroups y = new RepairGroups();
        y.data(0, 9);
        Check.parity(y, 0, 0, "x0");
        Check.parity(y, 0, 8, "x0");
        Check.parity(y, 0, 7, "x0");
        CHECK.due("8, not 9 or 10: node 1", y.of(1, 6), 8);
        CHECK.due("1: node 0", y.of(0, 6), 2);
        y.lose(3);
        CHECK.due("9, not 10: node 1", y.of(1, 6), 4);
        y.lose(2);
        CHECK.due("10: node 1", y.of(1, 6), 1);
        x.lose(0);
        x.repair(0);
        CHECK.due("READS of node 0", x.of(0, 3), 0);
        CHECK.due("READS of node 1", x.of(1, 3), 1);
        CHECK.due("READS of node 5", x.of(5, 3), 1);
    }

    private static void helpLeastBits() {
        CHECK.sentence("(of several the least as bits)");
        RepairGroups x = new RepairGroups();
        x.data(0, 0);
        x.data(0, 0);
        Check.parity(x, 0, 2, "x0");
        Check.parity(x, 0, 1, "x0+x1");
        Check.parity(x, 0, 2, "3*x0");
        CHECK.due("1 and 3 (10), 2 (4), 4 (16) cost 3 each: HELP of 0", x.of(0, 6), 4);
        x.lose(2);
        CHECK.due("10 or 16", x.of(0, 6), 10);
        x.lose(1);
        CHECK.due("16", x.of(0, 6), 16);
    }

    private static void helpNone() {
        CHECK.sentence("HELP of a FORM of zeros: the empty set tells it");
        RepairGroups x = new RepairGroups();
        Check.parity(x, 0, 9, "0*x0");
        for (int what = 6; what <= 8; what++) {
            CHECK.due("of(0, " + what + ")", x.of(0, what), 0);
        }
        x.data(0, 0);
        Check.parity(x, 0, 0, "x0");
        x.lose(0);
        CHECK.due("of(0, 6), others are THERE", x.of(0, 6), 0);
        CHECK.due("repair(0)", x.repair(0), 0);
        CHECK.due("nobody is read: of(1, 3)", x.of(1, 3), 0);
        CHECK.due("nobody is read: of(2, 3)", x.of(2, 3), 0);
    }

    private static void localEdges() {
        CHECK.sentence("LOCAL of a NODE: how many others, at least, MISSING ones too, TELL it (-5: none do).");
        RepairGroups x = new RepairGroups();
        x.data(0, 0);
        CHECK.due("no others", x.of(0, 8), -5);
        for (int d = 1; d < 5; d++) {
            x.data(0, 0);
        }
        Check.parity(x, 0, 0, "x0+x1+x2+x3+x4");
        CHECK.due("five, the most there can be", x.of(5, 8), 5);
        CHECK.due("all others", x.of(4, 8), 5);
        for (int node = 0; node < 6; node++) {
            x.lose(node);
        }
        CHECK.due("all MISSING", x.of(0, 8), 5);
        x.repair(0);
        Check.parity(x, 0, 0, "0*x0");
        CHECK.due("none is needed", x.of(6, 8), 0);
        CHECK.due("that one tells nothing", x.of(0, 8), 5);
    }

    // ---- taken

    private static void takenBad() {
        CHECK.sentence("p28 of KIND k (0 .. 6) .. BAD: k");
        for (int k : Check.outside(0, 6)) {
            for (Twins.Calls made : Twins.ALL) {
                no(made, "taken(0, " + k + ")", x -> x.taken(0, k), -2);
            }
        }
        no(Twins.RICH, "the least: taken(0, 0)", x -> x.taken(0, 0), 6);
        no(Twins.RICH, "the greatest: taken(0, 6)", x -> x.taken(0, 6), 6);
    }

    private static void takenNothing() {
        CHECK.sentence("NOTHING (-11): nothing is there .. p28 NOTHING: no such NODE");
        for (int k = 0; k <= 6; k++) {
            int kind = k;
            no(Twins.EMPTY, "taken(0, " + kind + ")", x -> x.taken(0, kind), -11);
        }
        for (int node : Check.outside(0, 4)) {
            no(Twins.RICH, "taken(" + node + ", 0)", x -> x.taken(node, 0), -11);
        }
        for (int node : Check.outside(0, 9)) {
            no(Twins.FULL, "taken(" + node + ", 0)", x -> x.taken(node, 0), -11);
        }
        no(Twins.RICH, "the last: taken(4, 0)", x -> x.taken(4, 0), 6);
        no(Twins.RICH, "a MISSING one: taken(3, 4)", x -> x.taken(3, 4), 4);
    }

    private static void takenCast() {
        CHECK.sentence("CAST (-12): another sort or KIND .. p28 or one under that");
        String[] under = {"0", "01", "02", "03", "014", "025", "036"};
        for (int n = 0; n <= 6; n++) {
            int kind = n;
            for (int k = 0; k <= 6; k++) {
                int asked = k;
                boolean isOne = under[kind].indexOf((char) ('0' + k)) >= 0;
                no(x -> x.data(kind, 0), "KIND " + kind + " taken for " + k, x -> x.taken(0, asked), isOne ? kind : -12);
            }
        }
    }

    private static void takenFirstOfTwo() {
        CHECK.sentence("p28 BAD .. NOTHING .. CAST: the first that a call's words name");
        no(Twins.RICH, "k ahead of the NODE", x -> x.taken(5, 7), -2);
        no(Twins.RICH, "k below ahead of the NODE", x -> x.taken(-1, -1), -2);
        no(Twins.EMPTY, "k ahead of no NODES", x -> x.taken(0, MAX), -2);
        no(Twins.EMPTY, "no NODE, so no KIND", x -> x.taken(0, 6), -11);
    }
}
