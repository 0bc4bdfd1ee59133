/** The document's promises 1 to 16. */
final class DocPromises {
    private final Doc doc;
    private final Check check;

    DocPromises(Doc doc) {
        this.doc = doc;
        check = doc.check;
    }

    void all() {
        newObject();
        field();
        calc();
        data();
        feed();
        parity();
        row();
        of();
        write();
        lose();
        repair();
        told();
        rankAndSafe();
        best();
        see();
    }

    private void newObject() {
        doc.says("`RepairGroups()`: No NODES.");
        RepairGroups x = new RepairGroups();
        for (int what = 0; what <= 5; what++) {
            check.due("count(" + what + ")", x.count(what), 0);
        }
        for (int node = 0; node <= 9; node++) {
            check.due("of(" + node + ", 0)", x.of(node, 0), -1);
        }
        check.due("undo()", x.undo(), -3);
    }

    private void field() {
        doc.says("`int field(int poly)`: POLY is told: the GENERATOR. BAD: it isn't 16 .. 31, or there is no FIELD by it; STATE: NODES "
            + "came.");
        RepairGroups x = new RepairGroups();
        check.due("field(31)", x.field(31), 3);
        check.due("POLY", x.told(0), 31);
        check.due("the GENERATOR", x.told(1), 3);
        check.due("field(25)", x.field(25), 2);
        check.due("field(15)", x.field(15), -2);
        check.due("field(32)", x.field(32), -2);
        check.due("field(17)", x.field(17), -2);
        check.due("field(19)", x.field(19), 2);
        x.data(0, 0);
        check.due("NODES came", x.field(25), -3);
        check.due("POLY", x.told(0), 19);
        RepairGroups y = doc.store("0 0 x0");
        check.due("a PARITY came", y.field(25), -3);
    }

    private void calc() {
        doc.says("`int calc(int what, int a, int b)`: What 0 the sum of a and b, 1 the product, 2 the number that times b is a, 3 a's "
            + "power b (b 0 .. 99; 0's power 0: 1), 4 EXP of a (b does not matter), 5 LOG of a (likewise). NONE: what; BAD: a, b (by "
            + "0 .. 2: not of THE FIELD; by 2: b is 0; by 4: not 0 .. 14; by 5: 0).");
        RepairGroups x = new RepairGroups();
        int[][] due = {{0, 6, 3, 5}, {1, 6, 3, 10}, {2, 10, 3, 6}, {2, 0, 7, 0}, {3, 2, 4, 3}, {3, 0, 0, 1}, {3, 0, 1, 0}, {3, 7, 0, 1},
            {3, 2, 99, 10}, {4, 0, -9, 1}, {4, 14, 99, 9}, {5, 1, -9, 0}, {5, 9, 99, 14}, {-1, 0, 0, -1}, {6, 0, 0, -1}, {0, 16, 0, -2},
            {0, 0, -1, -2}, {1, -1, 0, -2}, {1, 0, 16, -2}, {2, 16, 1, -2}, {2, 1, 16, -2}, {2, 1, 0, -2}, {3, 16, 1, -2}, {3, 1, -1, -2},
            {3, 1, 100, -2}, {4, -1, 0, -2}, {4, 15, 0, -2}, {5, 0, 0, -2}, {5, 16, 0, -2}};
        for (int[] row : due) {
            check.due("calc(" + row[0] + ", " + row[1] + ", " + row[2] + ")", x.calc(row[0], row[1], row[2]), row[3]);
        }
    }

    private void data() {
        doc.says("`int data(int kind, int v)`: A DATA: the NODE's number. NONE: kind; BAD: v; FULL: 5.");
        RepairGroups x = new RepairGroups();
        check.due("kind -1", x.data(-1, 0), -1);
        check.due("kind 7", x.data(7, 0), -1);
        check.due("v -1", x.data(0, -1), -2);
        check.due("v 10", x.data(0, 10), -2);
        for (int n = 0; n < 5; n++) {
            check.due("DATA " + n, x.data(n + 2, n), n);
            check.due("its KIND", x.of(n, 0), n + 2);
            check.due("its v", x.of(n, 1), n);
        }
        check.due("a sixth", x.data(0, 0), -4);
    }

    private void feed() {
        doc.says("`int feed(int sign)`: A sign (0 .. 127) comes behind THE TEXT's: how many it has. BAD; FULL.");
        RepairGroups x = new RepairGroups();
        check.due("-1", x.feed(-1), -2);
        check.due("128", x.feed(128), -2);
        check.due("0", x.feed(0), 1);
        check.due("127", x.feed(127), 2);
        check.due("sign 0 is a FAULT", x.parity(0, 0), -10);
        for (int n = 1; n <= 100; n++) {
            check.due("sign " + n, x.feed('x'), n);
        }
        check.due("BAD, ahead of FULL", x.feed(128), -2);
        check.due("FULL", x.feed('x'), -4);
    }

    private void parity() {
        doc.says("`int parity(int kind, int v)`: THE TEXT, which is empty then (by a FAULT, too), is the FORM of a PARITY: the NODE's "
            + "number. NONE: kind; BAD: v; FULL: 5 (by these THE TEXT stays); -10 less the FAULT; STATE: a DATA is MISSING for which "
            + "its FORM has not 0 (by these it is empty all the same).");
        RepairGroups x = doc.store("0 0");
        Check.feed(x, "x0+x1");
        check.due("kind 7", x.parity(7, 0), -1);
        check.due("v 10", x.parity(0, 10), -2);
        check.due("THE TEXT stays", x.count(5), 5);
        check.due("parity", x.parity(0, 0), 1);
        check.due("THE TEXT is empty", x.count(5), 0);
        Check.feed(x, "x0+y");
        check.due("FAULT 3", x.parity(0, 0), -13);
        check.due("THE TEXT is empty", x.count(5), 0);
        x.lose(0);
        Check.feed(x, "2*x0");
        check.due("DATA 0 is MISSING", x.parity(0, 0), -3);
        check.due("THE TEXT is empty", x.count(5), 0);
        doc.come(x, "0 0 x1", "0 0 x0+x0+x2", "0 0 0*x0", "0 0 x4");
        Check.feed(x, "x1");
        check.due("a sixth PARITY", x.parity(0, 0), -4);
        check.due("THE TEXT stays", x.count(5), 2);
        check.due("NODES", x.count(0), 6);
    }

    private void row() {
        doc.says("`int row(int node, int part, int n)`: The ROW of a TOLD one becomes n (0 .. 9) for READS modulo 4 being part: what it "
            + "was. NONE: node, part; BAD; STATE: another KIND.");
        RepairGroups x = doc.store("6 0", "3 0");
        check.due("was 0", x.row(0, 3, 9), 0);
        check.due("was 9", x.row(0, 3, 2), 9);
        check.due("another part", x.row(0, 0, 7), 0);
        check.due("COST by READS 0", x.of(0, 4), 8);
        check.due("node 2", x.row(2, 0, 0), -1);
        check.due("part 4", x.row(0, 4, 0), -1);
        check.due("part -1", x.row(0, -1, 0), -1);
        check.due("n 10", x.row(0, 0, 10), -2);
        check.due("n -1", x.row(0, 0, -1), -2);
        check.due("a BUSY one", x.row(1, 0, 0), -3);
    }

    private void of() {
        doc.says("`int of(int node, int what)`: Of a NODE what 0 KIND, 1 v, 2 which DATA it is (-5: a PARITY), 3 READS, 4 COST, 5 SYMBOL "
            + "(-5: MISSING), 6 HELP (bits; -5: none), 7 COSTS of HELP (-5), 8 LOCAL (-5), 10 and d the number for DATA d in its FORM. "
            + "NONE.");
        RepairGroups x = doc.store("3 4", "5 2 3*x0+x1", "1 9");
        x.write(0, 2);
        x.write(1, 8);
        int[][] due = {{3, 4, 0, 0, 5, 2, 6, 16, 2, -1, 1, 0, 0, 0, 0}, {5, 2, -5, 0, 11, 14, 5, 10, 2, -1, 3, 1, 0, 0, 0},
            {1, 9, 1, 0, 5, 8, 3, 16, 2, -1, 0, 1, 0, 0, 0}};
        for (int node = 0; node < 3; node++) {
            for (int what = -1; what <= 15; what++) {
                check.due("of(" + node + ", " + what + ")", x.of(node, what), what < 0 || what > 14 ? -1 : due[node][what]);
            }
        }
        check.due("of(3, 0)", x.of(3, 0), -1);
        x.lose(0);
        check.due("SYMBOL of what is MISSING", x.of(0, 5), -5);
        check.due("no HELP", x.of(1, 6), -5);
        check.due("no COSTS", x.of(1, 7), -5);
        check.due("LOCAL all the same", x.of(1, 8), 2);
        check.due("no LOCAL", doc.store("0 0").of(0, 8), -5);
    }

    private void write() {
        doc.says("`int write(int data, int symbol)`: A DATA is written a SYMBOL (0 .. 15): what it was. NONE: no such DATA; BAD; STATE: "
            + "it is MISSING.");
        RepairGroups x = doc.store("0 0 x1", "0 0", "0 0");
        check.due("DATA 1 is node 2", x.write(1, 5), 0);
        check.due("its SYMBOL", x.of(2, 5), 5);
        check.due("the PARITY's", x.of(0, 5), 5);
        check.due("what it was", x.write(1, 15), 5);
        check.due("DATA 2", x.write(2, 0), -1);
        check.due("16", x.write(0, 16), -2);
        check.due("-1", x.write(0, -1), -2);
        x.lose(1);
        check.due("DATA 0 is MISSING", x.write(0, 1), -3);
        check.due("DATA 1 is not", x.write(1, 1), 15);
    }

    private void lose() {
        doc.says("`int lose(int node)`: A NODE is MISSING: its SYMBOL. NONE; STATE: it is already.");
        RepairGroups x = doc.store("0 0", "0 0 2*x0");
        x.write(0, 8);
        check.due("lose(1)", x.lose(1), 3);
        check.due("lose(1) again", x.lose(1), -3);
        check.due("lose(0)", x.lose(0), 8);
        check.due("lose(2)", x.lose(2), -1);
        check.due("who is MISSING", x.told(2), 3);
    }

    private void repair() {
        doc.says("`int repair(int node)`: A NODE is REPAIRED: its SYMBOL. NONE; STATE: it isn't MISSING, or has no HELP.");
        RepairGroups x = doc.store("0 0", "0 0 2*x0");
        x.write(0, 8);
        check.due("it isn't MISSING", x.repair(1), -3);
        x.lose(1);
        check.due("repair(1)", x.repair(1), 3);
        check.due("it is THERE", x.told(2), 0);
        check.due("READS of its HELP", x.of(0, 3), 1);
        x.lose(0);
        x.lose(1);
        check.due("it has no HELP", x.repair(1), -3);
        check.due("repair(2)", x.repair(2), -1);
        check.due("who is MISSING", x.told(2), 3);
    }

    private void told() {
        doc.says("`int told(int what)`: What 0 POLY, 1 the GENERATOR, 2 who is MISSING (bits), 3 which of these have HELP (bits), 4 RANK "
            + "of those THERE, 5 whether these TELL all DATA, 6 DISTANCE (-5). NONE.");
        RepairGroups x = DocTells.groups(doc);
        toldAll(x, 19, 2, 0, 0, 4, 1, 3);
        x.lose(0);
        toldAll(x, 19, 2, 1, 1, 4, 1, 3);
        x.lose(1);
        toldAll(x, 19, 2, 3, 3, 4, 1, 3);
        x.lose(4);
        toldAll(x, 19, 2, 19, 0, 3, 0, 3);
        x.lose(5);
        toldAll(x, 19, 2, 51, 32, 3, 0, 3);
        check.due("told(-1)", x.told(-1), -1);
        check.due("told(7)", x.told(7), -1);
        toldAll(new RepairGroups(), 19, 2, 0, 0, 0, 1, -5);
    }

    private void toldAll(RepairGroups x, int... want) {
        for (int what = 0; what <= 6; what++) {
            check.due("told(" + what + ")", x.told(what), want[what]);
        }
    }

    private void rankAndSafe() {
        doc.says("`int rank(int set)`: RANK. NONE: set.");
        RepairGroups x = doc.store("0 0", "0 0", "0 0 x0+x1", "0 0 2*x0");
        int[] rank = {0, 1, 1, 2, 1, 2, 2, 2, 1, 1, 2, 2, 2, 2, 2, 2};
        for (int set = 0; set < 16; set++) {
            check.due("rank(" + set + ")", x.rank(set), rank[set]);
        }
        check.due("rank(16)", x.rank(16), -1);
        check.due("rank(-1)", x.rank(-1), -1);
        doc.says("`int safe(int e)`: COUNT of e (0 .. 10). BAD.");
        int[] safe = {-2, 1, 4, 5, 0, 0, 0, 0, 0, 0, 0, 0, -2};
        for (int e = -1; e <= 11; e++) {
            check.due("safe(" + e + ")", x.safe(e), safe[e + 1]);
        }
    }

    private void best() {
        doc.says("`int best(int node, int data, int e)`: BEST. NONE: node is no PARITY, data (0 .. 4, be it there or not); BAD: e "
            + "(0 .. 10).");
        RepairGroups x = doc.store("0 0", "0 0", "0 0 x0+x1", "0 0 x0+x1");
        check.due("best(3, 1, 2)", x.best(3, 1, 2), 2);
        check.due("best(2, 0, 2)", x.best(2, 0, 2), 2);
        check.due("best(3, 1, 1)", x.best(3, 1, 1), 0);
        check.due("best(3, 4, 10)", x.best(3, 4, 10), 0);
        check.due("a DATA", x.best(0, 0, 0), -1);
        check.due("node 4", x.best(4, 0, 0), -1);
        check.due("data 5", x.best(3, 5, 0), -1);
        check.due("data -1", x.best(3, -1, 0), -1);
        check.due("e 11", x.best(3, 0, 11), -2);
        check.due("e -1", x.best(3, 0, -1), -2);
    }

    private void see() {
        doc.says("`int see(int node, int symbol)`: What is SEEN comes: how many there are (node -1: none then, 0, whatever the rest is). "
            + "NONE; BAD: symbol; FULL: 5.");
        RepairGroups x = doc.store("0 0", "0 0 x0");
        check.due("node 2", x.see(2, 0), -1);
        check.due("node -2", x.see(-2, 0), -1);
        check.due("symbol 16", x.see(0, 16), -2);
        check.due("symbol -1", x.see(0, -1), -2);
        for (int n = 1; n <= 5; n++) {
            check.due("row " + n, x.see(n % 2, 3), n);
        }
        check.due("a sixth", x.see(0, 3), -4);
        check.due("LEAST", x.ways(1), 3);
        check.due("none then", x.see(-1, 99), 0);
        check.due("count(2)", x.count(2), 0);
        check.due("WAYS", x.ways(0), 16);
    }
}
