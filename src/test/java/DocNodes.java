/** The document's words on NODES, their SYMBOLS, KINDS and COST. */
final class DocNodes {
    private final Doc doc;
    private final Check check;

    DocNodes(Doc doc) {
        this.doc = doc;
        check = doc.check;
    }

    void all() {
        come();
        thereOrMissing();
        symbols();
        kinds();
        numbers();
        plainCosts();
        countedCosts();
        toldCosts();
    }

    private void come() {
        doc.says("NODES 0 .. 9, as they come, are DATA (5 at most; DATA 0, 1, .. as they come) or PARITIES (5 at most), each with "
            + "a FORM: five numbers of THE FIELD, one for each DATA, be it there yet or not; that of DATA d: 1 for d, 0 for others.");
        RepairGroups x = doc.store("0 0", "0 0 x0+2*x3", "0 0", "0 0", "0 0 f*x4+x1", "0 0", "0 0 x0", "0 0 x0", "0 0 x0", "0 0");
        int[] data = {0, -5, 1, 2, -5, 3, -5, -5, -5, 4};
        int[][] forms = {{1, 0, 0, 0, 0}, {1, 0, 0, 2, 0}, {0, 1, 0, 0, 0}, {0, 0, 1, 0, 0}, {0, 1, 0, 0, 15}, {0, 0, 0, 1, 0},
            {1, 0, 0, 0, 0}, {1, 0, 0, 0, 0}, {1, 0, 0, 0, 0}, {0, 0, 0, 0, 1}};
        for (int node = 0; node < 10; node++) {
            check.due("which DATA node " + node + " is", x.of(node, 2), data[node]);
            for (int d = 0; d < 5; d++) {
                check.due("its number for DATA " + d, x.of(node, 10 + d), forms[node][d]);
            }
        }
        check.due("a sixth DATA", x.data(0, 0), -4);
        check.due("a sixth PARITY", Check.parity(x, 0, 0, "x0"), -4);
        check.due("a node 10", x.of(10, 0), -1);
    }

    private void thereOrMissing() {
        doc.says("Each is THERE, with a SYMBOL (0 .. 15), or MISSING.");
        RepairGroups x = doc.store("0 0", "0 0 x0");
        check.due("write 15", x.write(0, 15), 0);
        check.due("write 16", x.write(0, 16), -2);
        check.due("THERE", x.of(0, 5), 15);
        check.due("lose", x.lose(0), 15);
        check.due("MISSING", x.of(0, 5), -5);
        check.due("the other", x.of(1, 5), 15);
        check.due("who is MISSING", x.told(2), 1);
    }

    private void symbols() {
        doc.says("The SYMBOL of a DATA is 0 as it comes, that of a PARITY always the sum of its FORM's numbers times what the "
            + "DATA were written (DATA that haven't come: 0).");
        RepairGroups x = doc.store("0 0", "0 0 3*x0+2*x3");
        check.due("as it comes", x.of(0, 5), 0);
        check.due("write 7", x.write(0, 7), 0);
        check.due("3 times 7 is 9, DATA 3 hasn't come", x.of(1, 5), 9);
        doc.come(x, "0 0", "0 0", "0 0");
        check.due("DATA 3 comes", x.of(4, 5), 0);
        check.due("3 times 7 still", x.of(1, 5), 9);
        check.due("write 9", x.write(3, 9), 0);
        check.due("9 and 2 times 9, that is 9 and 1", x.of(1, 5), 8);
        check.due("lose DATA 3", x.lose(4), 9);
        check.due("it was written all the same", x.of(1, 5), 8);
        check.due("lose the PARITY", x.lose(1), 8);
        check.due("write 0", x.write(0, 0), 7);
        check.due("nothing tells it now", x.repair(1), -3);
        RepairGroups y = doc.store("0 0", "0 0 2*x0");
        check.due("write 1", y.write(0, 1), 0);
        check.due("lose the PARITY", y.lose(1), 2);
        check.due("write 3", y.write(0, 3), 1);
        check.due("always: also of one that was MISSING", y.repair(1), 6);
    }

    private void kinds() {
        doc.says("NODES are of KINDS: 0 NODE; 1 NEAR, 2 FAR, 3 BUSY under NODE; 4 CACHED under NEAR; 5 DEEP under FAR; 6 TOLD under "
            + "BUSY;");
        int[][] under = {{0}, {0, 1}, {0, 2}, {0, 3}, {0, 1, 4}, {0, 2, 5}, {0, 3, 6}};
        for (int kind = 0; kind <= 6; kind++) {
            RepairGroups x = doc.store(kind + " 0");
            check.due("KIND", x.of(0, 0), kind);
            int places = 0;
            for (int k : under[kind]) {
                places |= 1 << k;
            }
            for (int k = 0; k <= 6; k++) {
                check.due(kind + " taken for " + k, x.taken(0, k), (places >> k & 1) != 0 ? kind : -12);
            }
        }
        check.due("KIND 7", new RepairGroups().data(7, 0), -1);
        check.due("KIND -1", new RepairGroups().data(-1, 0), -1);
    }

    private void numbers() {
        doc.says("with a number v (0 .. 9), READS (0 .. 9999; 0 at first).");
        for (int v = -2; v <= 12; v++) {
            RepairGroups x = new RepairGroups();
            boolean isNumber = v >= 0 && v <= 9;
            check.due("data(0, " + v + ")", x.data(0, v), isNumber ? 0 : -2);
            check.due("v", x.of(0, 1), isNumber ? v : -1);
            check.due("READS", x.of(0, 3), isNumber ? 0 : -1);
        }
    }

    private void plainCosts() {
        doc.says("COST: NODE: v and 1.");
        costs(0, 1, 2, 3, 4, 5, 6, 7, 8, 9, 10);
        doc.says("NEAR: half (cut) of a NODE's, 1 at least.");
        costs(1, 1, 1, 1, 2, 2, 3, 3, 4, 4, 5);
        doc.says("FAR: twice a NODE's.");
        costs(2, 2, 4, 6, 8, 10, 12, 14, 16, 18, 20);
    }

    private void costs(int kind, int... want) {
        for (int v = 0; v <= 9; v++) {
            check.due("COST by v " + v, doc.store(kind + " " + v).of(0, 4), want[v]);
            check.due("of a PARITY", doc.store(kind + " " + v + " x0").of(0, 4), want[v]);
        }
    }

    /** COST of a DATA by how often it was read. */
    private void read(RepairGroups x, int... want) {
        doc.come(x, "0 9 x0");
        for (int reads = 0; reads < want.length; reads++) {
            check.due("READS", x.of(0, 3), reads);
            check.due("COST by READS " + reads, x.of(0, 4), want[reads]);
            x.lose(1);
            x.repair(1);
        }
    }

    private void countedCosts() {
        doc.says("BUSY: as NODE, and READS (9 at most).");
        costs(3, 1, 2, 3, 4, 5, 6, 7, 8, 9, 10);
        read(doc.store("3 2"), 3, 4, 5, 6, 7, 8, 9, 10, 11, 12, 12, 12);
        doc.says("CACHED: as NEAR; 1, if READS is odd.");
        costs(4, 1, 1, 1, 2, 2, 3, 3, 4, 4, 5);
        read(doc.store("4 8"), 4, 1, 4, 1, 4);
        doc.says("DEEP: as FAR, and 5, if it is a PARITY.");
        for (int v = 0; v <= 9; v++) {
            check.due("COST of a DATA", doc.store("5 " + v).of(0, 4), 2 * v + 2);
            check.due("COST of a PARITY", doc.store("5 " + v + " x0").of(0, 4), 2 * v + 7);
        }
        read(doc.store("5 3"), 8, 8, 8);
    }

    private void toldCosts() {
        doc.says("TOLD: as BUSY, and its ROW (four numbers 0 .. 9; 0 at first) at READS modulo 4.");
        costs(6, 1, 2, 3, 4, 5, 6, 7, 8, 9, 10);
        read(doc.store("6 2"), 3, 4, 5, 6, 7, 8, 9, 10, 11, 12, 12, 12);
        RepairGroups x = doc.store("6 1");
        int[] row = {5, 0, 9, 2};
        for (int part = 0; part < 4; part++) {
            check.due("ROW at first", x.row(0, part, row[part]), 0);
        }
        check.due("10 in a ROW", x.row(0, 0, 10), -2);
        check.due("place 4 of a ROW", x.row(0, 4, 0), -1);
        read(x, 7, 3, 13, 7, 11, 7, 17, 11, 15, 11, 20, 13);
    }
}
