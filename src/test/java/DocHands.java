/** The document's words on what is told by hand: SEEN, the PLAN, the BOOK; on ODDS, MEAN and THE IMAGE. */
final class DocHands {
    private static final long NO = Long.MIN_VALUE;

    private final Doc doc;
    private final Check check;

    DocHands(Doc doc) {
        this.doc = doc;
        check = doc.check;
    }

    void all() {
        ways();
        least();
        can();
        odds();
        mean();
        plan();
        book();
        image();
    }

    private RepairGroups sum() {
        return doc.store("0 0", "0 0", "0 0 x0+x1");
    }

    private void ways() {
        doc.says("SEEN told by hand: a NODE, its SYMBOL (5 rows at most).");
        RepairGroups x = sum();
        for (int n = 1; n <= 5; n++) {
            check.due("row " + n, x.see(2, 4), n);
        }
        check.due("a sixth", x.see(2, 4), -4);
        check.due("it is told by hand, not so", x.of(2, 5), 0);
        doc.says("WAYS: in how many ways the DATA that came could be written (0 .. 15 each) so that all NODES in SEEN had these.");
        check.due("either DATA, then the other", x.ways(0), 16);
        RepairGroups y = sum();
        check.due("nothing is SEEN", y.ways(0), 256);
        y.see(0, 3);
        check.due("one is", y.ways(0), 16);
        y.see(2, 4);
        check.due("two are", y.ways(0), 1);
        y.see(1, 7);
        check.due("the third, as it must be", y.ways(0), 1);
        y.see(1, 6);
        check.due("and otherwise", y.ways(0), 0);
        RepairGroups z = doc.store("0 0 x0+x1");
        z.see(0, 3);
        check.due("no DATA that came", z.ways(0), 0);
        z.data(0, 0);
        check.due("one came", z.ways(0), 1);
        z.data(0, 0);
        check.due("two came", z.ways(0), 16);
    }

    private void least() {
        doc.says("LEAST: of these ways the one with the least DATA 0, of these with the least DATA 1, and so on: as a number, 16 times "
            + "what stood ahead and the next one, DATA by DATA (NO: there are none).");
        RepairGroups x = sum();
        check.due("nothing is SEEN", x.ways(1), 0);
        x.see(2, 4);
        check.due("0 and 4", x.ways(1), 4);
        x.see(0, 3);
        check.due("3 and 7", x.ways(1), 55);
        x.see(0, 2);
        check.due("none", x.ways(1), NO);
        RepairGroups y = doc.store("0 0", "0 0", "0 0", "0 0", "0 0", "0 0 x0+2*x2");
        y.see(5, 12);
        check.due("DATA 0 is 0, so DATA 2 is half of 12", y.ways(1), 0x00600);
        y.see(4, 15);
        y.see(1, 10);
        check.due("0, 10, 6, 0, 15", y.ways(1), 0x0A60F);
        y.see(2, 2);
        check.due("DATA 2 is 2, so DATA 0 is 12 and 4", y.ways(1), 0x8A20F);
    }

    private void can() {
        doc.says("CAN of a NODE: the SYMBOLS that it has in these ways, as bits.");
        RepairGroups x = sum();
        check.due("all", x.can(2), 0xFFFF);
        x.see(2, 4);
        check.due("4", x.can(2), 1 << 4);
        check.due("all still", x.can(0), 0xFFFF);
        x.see(0, 3);
        check.due("3", x.can(0), 1 << 3);
        check.due("7", x.can(1), 1 << 7);
        x.see(0, 15);
        check.due("none", x.can(1), 0);
    }

    private void odds() {
        doc.says("ODDS of e: COUNT of e by how many sets of e NODES there are: a fraction in lowest terms (NO: there are none).");
        RepairGroups x = doc.store("0 0", "0 0 x0", "0 0", "0 0 x1");
        long[] above = {1, 1, 2, 0, 0};
        long[] below = {1, 1, 3, 1, 1};
        for (int e = 0; e <= 4; e++) {
            check.due("ODDS of " + e + ", above", x.odds(e, 0), above[e]);
            check.due("ODDS of " + e + ", below", x.odds(e, 1), below[e]);
        }
        check.due("five of four", x.odds(5, 0), NO);
        check.due("five of four", x.odds(5, 1), NO);
        RepairGroups y = DocTells.groups(doc);
        check.due("27 of 35, above", y.odds(3, 0), 27);
        check.due("27 of 35, below", y.odds(3, 1), 35);
    }

    private void mean() {
        doc.says("MEAN: COSTS of HELP of all NODES that have some, together, by how many these are: a fraction in lowest terms (NO: "
            + "none has).");
        RepairGroups x = doc.store("0 0", "0 2 x0", "0 4", "0 0 x1", "0 8");
        check.due("3, 1, 1, 5 by 4, above", x.mean(0), 5);
        check.due("3, 1, 1, 5 by 4, below", x.mean(1), 2);
        RepairGroups y = DocTells.groups(doc);
        check.due("5, 5, 7, 7, 6, 2, 7 by 7, above", y.mean(0), 39);
        check.due("5, 5, 7, 7, 6, 2, 7 by 7, below", y.mean(1), 7);
        check.due("lose", y.lose(6), 0);
        check.due("5, 6, 11, 11, 7, 2, 7 (of the one MISSING) by 7, above", y.mean(0), 7);
        check.due("5, 6, 11, 11, 7, 2, 7 (of the one MISSING) by 7, below", y.mean(1), 1);
        check.due("none has", doc.store("0 0", "0 0").mean(0), NO);
        check.due("none has", doc.store("0 0", "0 0").mean(1), NO);
    }

    private void plan() {
        doc.says("A PLAN told by hand: what goes (0 NODE n is MISSING, 1 NODE n is REPAIRED, if it is MISSING and has HELP, 2 v of NODE "
            + "n is 0; 10 rows at most):");
        RepairGroups x = doc.store("0 0", "3 2 x0");
        int[][] steps = {{0, 0}, {1, 0}, {1, 1}, {0, 0}, {0, 1}, {1, 0}, {1, 1}};
        int[] missing = {1, 0, 0, 1, 3, 3, 3};
        int[] costs = {0, 3, 3, 3, 3, 3, 3};
        for (int n = 0; n < steps.length; n++) {
            check.due("row " + n, x.plan(steps[n][0], steps[n][1]), n + 1);
            check.due("who is MISSING by it", x.ends(0), missing[n]);
            check.due("COSTS by it", x.ends(1), costs[n]);
        }
        for (int n = 8; n <= 10; n++) {
            check.due("row " + n, x.plan(2, 1), n);
        }
        check.due("row 11", x.plan(2, 1), -4);
        doc.says("ENDS: who is MISSING; COSTS of all HELPS by which some were REPAIRED, as they were ahead of that, together.");
        RepairGroups y = doc.store("0 0", "3 2 x0");
        int[][] more = {{0, 0}, {1, 0}, {0, 0}, {1, 0}, {2, 1}, {0, 0}, {1, 0}, {0, 1}};
        int[] sums = {0, 3, 3, 7, 7, 7, 10, 10};
        for (int n = 0; n < more.length; n++) {
            y.plan(more[n][0], more[n][1]);
            check.due("3, then 4, then 1 and 2 READS: COSTS by row " + n, y.ends(1), sums[n]);
        }
        check.due("who is MISSING at last", y.ends(0), 2);
        check.due("nothing goes indeed", y.told(2), 0);
        check.due("v", y.of(1, 1), 2);
        check.due("READS", y.of(1, 3), 0);
    }

    private void book() {
        doc.says("A BOOK told by hand: NODES, SYMBOLS (0 .. 15; 8 at most):");
        RepairGroups x = sum();
        for (int n = 1; n <= 8; n++) {
            check.due("row " + n, x.book(n % 3, 0), n);
        }
        check.due("row 9", x.book(0, 0), -4);
        doc.says("LOOKED at: the number (from 0) of the first of these rows by which it is otherwise now (MISSING, too; -5: none).");
        check.due("none", x.looked(), -5);
        x.lose(0);
        check.due("row 2 is node 0's", x.looked(), 2);
        x.lose(2);
        check.due("row 1 is node 2's", x.looked(), 1);
        RepairGroups y = sum();
        y.book(1, 0);
        y.book(0, 5);
        y.book(2, 5);
        check.due("node 0 is 0, not 5", y.looked(), 1);
        y.write(0, 5);
        check.due("all are as told", y.looked(), -5);
        y.write(1, 1);
        check.due("node 1 is 1, not 0", y.looked(), 0);
    }

    private void image() {
        doc.says("THE IMAGE: NODES with all that is theirs, SEEN, the PLAN, the BOOK.");
        RepairGroups x = doc.store("6 3", "3 2 x0");
        x.write(0, 6);
        x.row(0, 0, 4);
        x.see(0, 1);
        x.plan(0, 1);
        x.book(0, 5);
        x.lose(1);
        check.due("image", x.image(), 2);
        x.repair(1);
        x.write(0, 9);
        x.row(0, 0, 8);
        x.see(1, 2);
        x.plan(-1, 0);
        x.book(0, 6);
        doc.come(x, "0 0");
        check.due("undo", x.undo(), 2);
        check.due("NODES", x.count(0), 2);
        check.due("SEEN", x.count(2), 1);
        check.due("the PLAN", x.count(3), 1);
        check.due("the BOOK", x.count(4), 1);
        check.due("who is MISSING", x.told(2), 2);
        check.due("SYMBOL", x.of(0, 5), 6);
        check.due("READS", x.of(0, 3), 0);
        check.due("COST, by its ROW", x.of(0, 4), 8);
        check.due("LEAST", x.ways(1), 1);
        check.due("LOOKED at", x.looked(), 0);
    }
}
