/** Promises 4 and 7 to 11: data, row, of, write, lose, repair; and 28, taken. */
public final class NodesTest {
    private static final Check CHECK = new Check("NodesTest");

    public static void main(String[] args) {
        dataCome();
        firstCosts();
        costsByReads();
        rows();
        facts();
        writing();
        losing();
        repairing();
        helpOfLeastCost();
        helpOfLeastBits();
        helpOfNone();
        local();
        takenFor();
        CHECK.end();
    }

    private static void dataCome() {
        RepairGroups x = new RepairGroups();
        CHECK.due("p4: data(-1, 99)", x.data(-1, 99), -1);
        CHECK.due("p4: data(7, 0)", x.data(7, 0), -1);
        CHECK.due("p4: data(0, -1)", x.data(0, -1), -2);
        CHECK.due("p4: data(0, 10)", x.data(0, 10), -2);
        CHECK.due("p4: data(6, 9)", x.data(6, 9), 0);
        Check.parity(x, 0, 0, "x0");
        for (int d = 1; d < 5; d++) {
            CHECK.due("p4: DATA " + d, x.data(d, d), d + 1);
            CHECK.due("p8: which DATA", x.of(d + 1, 2), d);
        }
        CHECK.due("p4: full", x.data(0, 0), -4);
        CHECK.due("p4: kind first", x.data(7, 0), -1);
        CHECK.due("p4: v first", x.data(0, 10), -2);
        CHECK.due("p29: count(0)", x.count(0), 6);
        CHECK.due("p29: count(1)", x.count(1), 5);
        for (int n = 1; n < 5; n++) {
            CHECK.due("p4: all ten", Check.parity(x, 0, 0, "x1"), 5 + n);
        }
        CHECK.due("p4: full of all", x.data(0, 0), -4);
    }

    /** v and the COST of each KIND as DATA, with no READS; DEEP PARITIES 5 more. */
    private static void firstCosts() {
        int[][] want = {
            {1, 2, 3, 4, 5, 6, 7, 8, 9, 10},
            {1, 1, 1, 2, 2, 3, 3, 4, 4, 5},
            {2, 4, 6, 8, 10, 12, 14, 16, 18, 20},
            {1, 2, 3, 4, 5, 6, 7, 8, 9, 10},
            {1, 1, 1, 2, 2, 3, 3, 4, 4, 5},
            {2, 4, 6, 8, 10, 12, 14, 16, 18, 20},
            {1, 2, 3, 4, 5, 6, 7, 8, 9, 10}};
        for (int kind = 0; kind <= 6; kind++) {
            for (int v = 0; v <= 9; v++) {
                RepairGroups x = new RepairGroups();
                x.data(kind, v);
                Check.parity(x, kind, v, "x0");
                String of = " of kind " + kind + ", v " + v;
                CHECK.due("p8: COST" + of, x.of(0, 4), want[kind][v]);
                CHECK.due("p8: COST of a PARITY" + of, x.of(1, 4), want[kind][v] + (kind == 5 ? 5 : 0));
                CHECK.due("p8: KIND", x.of(0, 0), kind);
                CHECK.due("p8: v", x.of(1, 1), v);
            }
        }
    }

    /** Node 0 is read n times: the only HELP of node 1. */
    private static RepairGroups readTimes(int kind, int v, int n) {
        RepairGroups x = new RepairGroups();
        x.data(kind, v);
        Check.parity(x, 0, 0, "x0");
        for (int i = 0; i < n; i++) {
            x.lose(1);
            CHECK.due("p11: repair(1)", x.repair(1), 0);
        }
        CHECK.due("p8: READS", x.of(0, 3), n);
        CHECK.due("p8: READS of the other", x.of(1, 3), 0);
        return x;
    }

    private static void costsByReads() {
        for (int n = 0; n <= 12; n++) {
            int nine = n < 9 ? n : 9;
            CHECK.due("p8: NODE", readTimes(0, 6, n).of(0, 4), 7);
            CHECK.due("p8: NEAR", readTimes(1, 6, n).of(0, 4), 3);
            CHECK.due("p8: FAR", readTimes(2, 6, n).of(0, 4), 14);
            CHECK.due("p8: BUSY", readTimes(3, 6, n).of(0, 4), 7 + nine);
            CHECK.due("p8: CACHED", readTimes(4, 6, n).of(0, 4), n % 2 == 1 ? 1 : 3);
            CHECK.due("p8: DEEP", readTimes(5, 6, n).of(0, 4), 14);
            RepairGroups x = readTimes(6, 6, n);
            int[] row = {1, 9, 5, 0};
            for (int part = 0; part < 4; part++) {
                x.row(0, part, row[part]);
            }
            CHECK.due("p8: TOLD", x.of(0, 4), 7 + nine + row[n % 4]);
        }
    }

    private static void rows() {
        RepairGroups x = new RepairGroups();
        x.data(6, 0);
        x.data(3, 0);
        CHECK.due("p7: row(0, 3, 9)", x.row(0, 3, 9), 0);
        CHECK.due("p7: row(0, 3, 0)", x.row(0, 3, 0), 9);
        CHECK.due("p7: row(0, 0, 4)", x.row(0, 0, 4), 0);
        CHECK.due("p8: COST by it", x.of(0, 4), 5);
        CHECK.due("p7: no node", x.row(2, 0, 99), -1);
        CHECK.due("p7: node -1", x.row(-1, 0, 0), -1);
        CHECK.due("p7: no part", x.row(1, 4, 99), -1);
        CHECK.due("p7: part -1", x.row(1, -1, 0), -1);
        CHECK.due("p7: n above, ahead of the KIND", x.row(1, 0, 10), -2);
        CHECK.due("p7: n below", x.row(0, 0, -1), -2);
        CHECK.due("p7: another KIND", x.row(1, 0, 9), -3);
        CHECK.due("p7: nothing changed", x.row(0, 0, 4), 4);
    }

    private static void facts() {
        RepairGroups x = new RepairGroups();
        x.data(0, 0);
        Check.parity(x, 0, 0, "3*x0+5*x4");
        CHECK.due("p8: DATA's own number", x.of(0, 10), 1);
        for (int d = 1; d < 5; d++) {
            CHECK.due("p8: DATA's others", x.of(0, 10 + d), 0);
        }
        CHECK.due("p8: of(1, 2)", x.of(1, 2), -5);
        CHECK.due("p8: of(1, 10)", x.of(1, 10), 3);
        CHECK.due("p8: of(1, 14)", x.of(1, 14), 5);
        int[] whats = {-1, 9, 15, Integer.MAX_VALUE, Integer.MIN_VALUE};
        for (int what : whats) {
            CHECK.due("p8: of(0, " + what + ")", x.of(0, what), -1);
        }
        int[] nodes = {-1, 2, 10, 32, Integer.MAX_VALUE, Integer.MIN_VALUE};
        for (int node : nodes) {
            CHECK.due("p8: of(" + node + ", 0)", x.of(node, 0), -1);
        }
    }

    private static void writing() {
        RepairGroups x = new RepairGroups();
        Check.parity(x, 0, 0, "x0+2*x1");
        x.data(0, 0);
        x.data(0, 0);
        CHECK.due("p9: write(0, 15)", x.write(0, 15), 0);
        CHECK.due("p9: write(0, 5)", x.write(0, 5), 15);
        CHECK.due("p9: write(1, 4)", x.write(1, 4), 0);
        CHECK.due("p8: DATA 0 is node 1", x.of(1, 5), 5);
        CHECK.due("p8: DATA 1 is node 2", x.of(2, 5), 4);
        CHECK.due("p8: the PARITY", x.of(0, 5), 5 ^ 8);
        CHECK.due("p9: no DATA 2", x.write(2, 99), -1);
        CHECK.due("p9: no DATA -1", x.write(-1, 0), -1);
        CHECK.due("p9: symbol above", x.write(0, 16), -2);
        CHECK.due("p9: symbol below", x.write(0, -1), -2);
        x.lose(1);
        CHECK.due("p9: BAD ahead of MISSING", x.write(0, 16), -2);
        CHECK.due("p9: MISSING", x.write(0, 1), -3);
        x.lose(0);
        CHECK.due("p9: a PARITY that is MISSING is no matter", x.write(1, 0), 4);
        x.lose(2);
        CHECK.due("p8: SYMBOL of a MISSING one", x.of(0, 5), -5);
    }

    private static void losing() {
        RepairGroups x = new RepairGroups();
        x.data(0, 0);
        Check.parity(x, 0, 0, "2*x0");
        x.write(0, 6);
        CHECK.due("p10: no node", x.lose(2), -1);
        CHECK.due("p10: node -1", x.lose(-1), -1);
        CHECK.due("p10: lose(1)", x.lose(1), 12);
        CHECK.due("p10: again", x.lose(1), -3);
        CHECK.due("p12: who", x.told(2), 2);
        x.write(0, 7);
        CHECK.due("p11: as it would be now", x.repair(1), 14);
        CHECK.due("p10: lose(0)", x.lose(0), 7);
        CHECK.due("p12: who now", x.told(2), 1);
        CHECK.due("p11: what was written", x.repair(0), 7);
        CHECK.due("p12: nobody", x.told(2), 0);
    }

    private static void repairing() {
        RepairGroups x = new RepairGroups();
        x.data(3, 1);
        x.data(0, 2);
        Check.parity(x, 0, 0, "x0+x1");
        CHECK.due("p11: no node", x.repair(3), -1);
        CHECK.due("p11: node -1", x.repair(-1), -1);
        CHECK.due("p11: it isn't MISSING", x.repair(0), -3);
        x.lose(2);
        x.lose(1);
        CHECK.due("p11: no HELP", x.repair(1), -3);
        CHECK.due("p8: HELP of none", x.of(1, 6), -5);
        CHECK.due("p8: COSTS of none", x.of(1, 7), -5);
        CHECK.due("p8: LOCAL with MISSING ones", x.of(1, 8), 2);
        CHECK.due("p8: READS stay", x.of(0, 3), 0);
    }

    private static void helpOfLeastCost() {
        RepairGroups x = new RepairGroups();
        x.data(0, 0);
        x.data(0, 0);
        x.data(3, 0);
        Check.parity(x, 0, 3, "x0");
        Check.parity(x, 0, 0, "x0+x1+x2");
        CHECK.due("p8: three that cost 3", x.of(0, 6), 2 + 4 + 16);
        CHECK.due("p8: COSTS", x.of(0, 7), 3);
        CHECK.due("p8: LOCAL", x.of(0, 8), 1);
        CHECK.due("p10: lose(0)", x.lose(0), 0);
        CHECK.due("p12: who has HELP", x.told(3), 1);
        CHECK.due("p11: repair(0)", x.repair(0), 0);
        CHECK.due("p8: READS of 1", x.of(1, 3), 1);
        CHECK.due("p8: READS of 2", x.of(2, 3), 1);
        CHECK.due("p8: READS of 3", x.of(3, 3), 0);
        CHECK.due("p8: READS of 4", x.of(4, 3), 1);
        CHECK.due("p8: READS of its own", x.of(0, 3), 0);
        CHECK.due("p8: a tie at 4 now: the least bits", x.of(0, 6), 8);
        x.lose(3);
        CHECK.due("p8: without the MISSING one", x.of(0, 6), 2 + 4 + 16);
        CHECK.due("p8: COSTS by READS", x.of(0, 7), 4);
    }

    private static void helpOfLeastBits() {
        RepairGroups x = new RepairGroups();
        x.data(0, 0);
        Check.parity(x, 0, 2, "x0");
        Check.parity(x, 0, 2, "x0");
        CHECK.due("p8: of two alike the lower one", x.of(0, 6), 2);
        RepairGroups y = new RepairGroups();
        y.data(0, 0);
        y.data(0, 0);
        y.data(0, 0);
        Check.parity(y, 0, 0, "x0+x1+x2");
        Check.parity(y, 0, 2, "x0");
        CHECK.due("p8: three below one", y.of(0, 6), 2 + 4 + 8);
        CHECK.due("p8: LOCAL is one", y.of(0, 8), 1);
    }

    private static void helpOfNone() {
        RepairGroups x = new RepairGroups();
        Check.parity(x, 0, 0, "0*x0");
        CHECK.due("p8: none is needed", x.of(0, 6), 0);
        CHECK.due("p8: COSTS of none needed", x.of(0, 7), 0);
        CHECK.due("p8: LOCAL of none needed", x.of(0, 8), 0);
        CHECK.due("p10: lose", x.lose(0), 0);
        CHECK.due("p12: it has HELP", x.told(3), 1);
        CHECK.due("p11: repair by none", x.repair(0), 0);
    }

    private static void local() {
        RepairGroups x = new RepairGroups();
        x.data(0, 0);
        CHECK.due("p8: none tell it", x.of(0, 8), -5);
        x.data(0, 0);
        Check.parity(x, 0, 0, "x0+2*x1+x3");
        CHECK.due("p8: none yet", x.of(0, 8), -5);
        Check.parity(x, 0, 0, "x0+x1+x3");
        CHECK.due("p8: not to be had", x.of(0, 8), -5);
        CHECK.due("p8: a DATA and a PARITY", x.of(2, 8), 2);
        CHECK.due("p8: the two PARITIES", x.of(1, 8), 2);
    }

    private static void takenFor() {
        boolean[][] under = new boolean[7][7];
        for (int kind = 0; kind <= 6; kind++) {
            under[kind][kind] = true;
            under[kind][0] = true;
        }
        under[4][1] = true;
        under[5][2] = true;
        under[6][3] = true;
        for (int kind = 0; kind <= 6; kind++) {
            RepairGroups x = new RepairGroups();
            x.data(kind, 0);
            for (int k = 0; k <= 6; k++) {
                CHECK.due("p28: " + kind + " taken for " + k, x.taken(0, k), under[kind][k] ? kind : -12);
            }
            CHECK.due("p28: k above", x.taken(9, 7), -2);
            CHECK.due("p28: k below", x.taken(0, -1), -2);
            CHECK.due("p28: no node", x.taken(1, 0), -11);
            CHECK.due("p28: node -1", x.taken(-1, 6), -11);
        }
    }
}
