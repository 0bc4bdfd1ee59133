/** Promises 21 to 24: plan, ends, book, looked. */
public final class PlanTest {
    private static final Check CHECK = new Check("PlanTest");

    public static void main(String[] args) {
        planning();
        losesAndRepairs();
        readsAsItGoes();
        cheaper();
        fromNow();
        booking();
        looking();
        CHECK.end();
    }

    private static void planning() {
        RepairGroups x = new RepairGroups();
        CHECK.due("p21: no node", x.plan(0, 0), -1);
        CHECK.due("p21: none then", x.plan(-1, 99), 0);
        x.data(0, 0);
        CHECK.due("p21: what -2", x.plan(-2, 0), -1);
        CHECK.due("p21: what 3", x.plan(3, 0), -1);
        CHECK.due("p21: node -1", x.plan(0, -1), -1);
        CHECK.due("p21: node 1", x.plan(2, 1), -1);
        for (int n = 1; n <= 10; n++) {
            CHECK.due("p21: row " + n, x.plan(n % 3, 0), n);
        }
        CHECK.due("p21: full", x.plan(0, 0), -4);
        CHECK.due("p21: what ahead of full", x.plan(3, 0), -1);
        CHECK.due("p21: node ahead of full", x.plan(0, 1), -1);
        CHECK.due("p29: count(3)", x.count(3), 10);
        CHECK.due("p21: empty", x.plan(-1, 0), 0);
        CHECK.due("p29: count(3) then", x.count(3), 0);
        CHECK.due("p22: ends(2)", x.ends(2), -1);
        CHECK.due("p22: ends(-1)", x.ends(-1), -1);
    }

    private static RepairGroups threeAndSum(int kind) {
        RepairGroups x = new RepairGroups();
        x.data(kind, 0);
        x.data(0, 1);
        x.data(0, 2);
        Check.parity(x, 0, 4, "x0+x1+x2");
        return x;
    }

    private static void losesAndRepairs() {
        RepairGroups x = threeAndSum(0);
        CHECK.due("p22: nobody", x.ends(0), 0);
        CHECK.due("p22: no COSTS", x.ends(1), 0);
        x.plan(0, 0);
        x.plan(0, 2);
        CHECK.due("p22: who", x.ends(0), 5);
        x.plan(0, 2);
        CHECK.due("p22: lost twice", x.ends(0), 5);
        x.plan(1, 0);
        CHECK.due("p22: no HELP", x.ends(0), 5);
        CHECK.due("p22: costs nothing", x.ends(1), 0);
        x.plan(1, 1);
        CHECK.due("p22: it isn't MISSING", x.ends(1), 0);
        x.plan(0, 3);
        CHECK.due("p22: three", x.ends(0), 13);
        CHECK.due("p22: nothing is changed", x.told(2), 0);
        RepairGroups y = threeAndSum(0);
        y.plan(0, 0);
        y.plan(1, 0);
        y.plan(0, 1);
        CHECK.due("p22: one of two", y.ends(0), 2);
        CHECK.due("p22: 2 and 3 and 5", y.ends(1), 10);
        y.plan(1, 1);
        CHECK.due("p22: nobody again", y.ends(0), 0);
        CHECK.due("p22: 10, and 1 and 3 and 5", y.ends(1), 19);
        CHECK.due("p22: READS stay", y.of(2, 3), 0);
    }

    /** A BUSY one is read more dearly each time. */
    private static void readsAsItGoes() {
        RepairGroups x = threeAndSum(3);
        for (int n = 0; n < 4; n++) {
            x.plan(0, 3);
            x.plan(1, 3);
        }
        CHECK.due("p22: 6, 7, 8, 9", x.ends(1), 30);
        CHECK.due("p22: the same again", x.ends(1), 30);
        CHECK.due("p8: READS stay", x.of(0, 3), 0);
        x.lose(3);
        CHECK.due("p11: repair(3)", x.repair(3), 0);
        CHECK.due("p22: 7, 8, 9, 10", x.ends(1), 34);
    }

    private static void cheaper() {
        RepairGroups x = threeAndSum(0);
        x.plan(0, 0);
        x.plan(2, 3);
        x.plan(1, 0);
        CHECK.due("p22: 2 and 3 and 1", x.ends(1), 6);
        CHECK.due("p22: nobody", x.ends(0), 0);
        CHECK.due("p8: v stays", x.of(3, 1), 4);
        x.plan(2, 2);
        CHECK.due("p22: too late", x.ends(1), 6);
    }

    private static void fromNow() {
        RepairGroups x = threeAndSum(0);
        x.lose(1);
        CHECK.due("p22: as it is now", x.ends(0), 2);
        x.plan(1, 1);
        CHECK.due("p22: REPAIRED", x.ends(0), 0);
        CHECK.due("p22: 1 and 3 and 5", x.ends(1), 9);
        x.lose(2);
        CHECK.due("p22: no HELP now", x.ends(0), 6);
        CHECK.due("p22: for nothing", x.ends(1), 0);
    }

    private static void booking() {
        RepairGroups x = new RepairGroups();
        CHECK.due("p23: no node", x.book(0, 99), -1);
        CHECK.due("p23: empty", x.book(-1, 99), 0);
        CHECK.due("p24: nothing in it", x.looked(), -5);
        x.data(0, 0);
        CHECK.due("p23: node -2", x.book(-2, 0), -1);
        CHECK.due("p23: symbol above", x.book(0, 16), -2);
        CHECK.due("p23: symbol below", x.book(0, -1), -2);
        for (int n = 1; n <= 8; n++) {
            CHECK.due("p23: row " + n, x.book(0, n), n);
        }
        CHECK.due("p23: full", x.book(0, 0), -4);
        CHECK.due("p23: node ahead of full", x.book(1, 0), -1);
        CHECK.due("p23: symbol ahead of full", x.book(0, 16), -2);
        CHECK.due("p29: count(4)", x.count(4), 8);
        CHECK.due("p23: empty again", x.book(-1, 0), 0);
        CHECK.due("p29: count(4) then", x.count(4), 0);
    }

    private static void looking() {
        RepairGroups x = threeAndSum(0);
        x.write(1, 9);
        x.book(0, 0);
        x.book(3, 9);
        x.book(1, 9);
        CHECK.due("p24: all is so", x.looked(), -5);
        x.write(0, 1);
        CHECK.due("p24: the first", x.looked(), 0);
        x.write(0, 0);
        x.lose(1);
        CHECK.due("p24: MISSING", x.looked(), 2);
        x.lose(3);
        CHECK.due("p24: the first of two", x.looked(), 1);
        x.book(-1, 0);
        x.book(3, 0);
        CHECK.due("p24: MISSING is not 0", x.looked(), 0);
    }
}
