/** Promises 12 to 15: told, rank, safe, best. */
public final class TellTest {
    private static final Check CHECK = new Check("TellTest");

    public static void main(String[] args) {
        noData();
        oneSum();
        toldByMissing();
        formsAhead();
        ranks();
        localGroups();
        bestByCount();
        bestAlone();
        bestRefused();
        CHECK.end();
    }

    private static void safes(RepairGroups x, int... want) {
        for (int e = 0; e <= 10; e++) {
            CHECK.due("p14: safe(" + e + ")", x.safe(e), e < want.length ? want[e] : 0);
        }
    }

    private static void noData() {
        RepairGroups x = new RepairGroups();
        safes(x, 1);
        CHECK.due("p14: safe(-1)", x.safe(-1), -2);
        CHECK.due("p14: safe(11)", x.safe(11), -2);
        Check.parity(x, 0, 0, "x0");
        Check.parity(x, 0, 0, "x1");
        safes(x, 1, 2, 1);
        CHECK.due("p12: DISTANCE of no DATA", x.told(6), -5);
        x.lose(0);
        CHECK.due("p12: no DATA, so all are told", x.told(5), 1);
        CHECK.due("p12: RANK of those THERE", x.told(4), 1);
        CHECK.due("p12: told(-1)", x.told(-1), -1);
        CHECK.due("p12: told(7)", x.told(7), -1);
    }

    private static void oneSum() {
        RepairGroups x = new RepairGroups();
        x.data(0, 0);
        safes(x, 1, 0);
        CHECK.due("p12: DISTANCE alone", x.told(6), 1);
        x.data(0, 0);
        Check.parity(x, 0, 0, "x0+x1");
        safes(x, 1, 3, 0, 0);
        CHECK.due("p12: DISTANCE", x.told(6), 2);
        CHECK.due("p15: any but 0", x.best(2, 0, 1), 1);
        CHECK.due("p15: nothing is lost", x.best(2, 0, 0), 0);
        CHECK.due("p15: too many are", x.best(2, 0, 2), 0);
        CHECK.due("p15: more than there are", x.best(2, 0, 10), 0);
        CHECK.due("p15: a DATA that has not come", x.best(2, 4, 1), 0);
        CHECK.due("p15: nothing changed", x.of(2, 10), 1);
        x.lose(0);
        x.lose(1);
        safes(x, 1, 3, 0, 0);
        CHECK.due("p12: DISTANCE is of all", x.told(6), 2);
    }

    private static void toldByMissing() {
        RepairGroups x = new RepairGroups();
        x.data(0, 0);
        x.data(0, 0);
        Check.parity(x, 0, 0, "x0+x1");
        CHECK.due("p12: RANK", x.told(4), 2);
        CHECK.due("p12: all told", x.told(5), 1);
        x.lose(1);
        CHECK.due("p12: RANK less one", x.told(4), 2);
        CHECK.due("p12: all told less one", x.told(5), 1);
        CHECK.due("p12: who is MISSING", x.told(2), 2);
        CHECK.due("p12: who has HELP", x.told(3), 2);
        x.lose(2);
        CHECK.due("p12: RANK less two", x.told(4), 1);
        CHECK.due("p12: not all told", x.told(5), 0);
        CHECK.due("p12: who are MISSING", x.told(2), 6);
        CHECK.due("p12: none has HELP", x.told(3), 0);
        Check.parity(x, 0, 0, "5*x0");
        x.lose(3);
        CHECK.due("p12: one has HELP", x.told(3), 8);
        CHECK.due("p13: MISSING ones too", x.rank(7), 2);
    }

    /** A PARITY over DATA that hasn't come tells nothing, till another with it is there. */
    private static void formsAhead() {
        RepairGroups x = new RepairGroups();
        x.data(0, 0);
        Check.parity(x, 0, 0, "x0+x4");
        CHECK.due("p13: both", x.rank(3), 2);
        safes(x, 1, 1, 0);
        CHECK.due("p12: DISTANCE", x.told(6), 1);
        Check.parity(x, 0, 0, "x4");
        safes(x, 1, 3, 1, 0);
        CHECK.due("p12: DISTANCE with x4", x.told(6), 2);
    }

    private static void ranks() {
        RepairGroups x = new RepairGroups();
        CHECK.due("p13: rank(0)", x.rank(0), 0);
        CHECK.due("p13: rank(1)", x.rank(1), -1);
        x.data(0, 0);
        x.data(0, 0);
        Check.parity(x, 0, 0, "7*x0");
        Check.parity(x, 0, 0, "0*x0");
        int[] want = {0, 1, 1, 2, 1, 1, 2, 2, 0, 1, 1, 2, 1, 1, 2, 2};
        for (int set = 0; set < 16; set++) {
            CHECK.due("p13: rank(" + set + ")", x.rank(set), want[set]);
        }
        int[] none = {16, 17, 1024, -1, Integer.MIN_VALUE, Integer.MAX_VALUE};
        for (int set : none) {
            CHECK.due("p13: rank(" + set + ")", x.rank(set), -1);
        }
    }

    /** Two groups of two, each with its sum, and one over all: any two can be lost, but three of a group can't. */
    private static void localGroups() {
        RepairGroups x = new RepairGroups();
        for (int d = 0; d < 4; d++) {
            x.data(0, 0);
        }
        Check.parity(x, 0, 0, "x0+x1");
        Check.parity(x, 0, 0, "x2+x3");
        Check.parity(x, 0, 0, "x0+2*x1+4*x2+8*x3");
        safes(x, 1, 7, 21, 27);
        CHECK.due("p12: DISTANCE", x.told(6), 3);
        CHECK.due("p13: all", x.rank(127), 4);
        CHECK.due("p8: LOCAL of DATA 0", x.of(0, 8), 2);
        CHECK.due("p8: LOCAL of the last", x.of(6, 8), 4);
    }

    /** By 1 the second sum is like the first, by 0 it has no x0: 2 is the least of the good ones. */
    private static void bestByCount() {
        RepairGroups x = new RepairGroups();
        x.data(0, 0);
        x.data(0, 0);
        Check.parity(x, 0, 0, "x0+x1");
        Check.parity(x, 0, 0, "x0+x1");
        safes(x, 1, 4, 5, 0, 0);
        CHECK.due("p15: best(3, 0, 2)", x.best(3, 0, 2), 2);
        CHECK.due("p15: best(3, 1, 2)", x.best(3, 1, 2), 2);
        CHECK.due("p15: best(2, 0, 2)", x.best(2, 0, 2), 2);
        CHECK.due("p15: best(3, 0, 1)", x.best(3, 0, 1), 0);
        CHECK.due("p15: best(3, 0, 3)", x.best(3, 0, 3), 0);
        Check.parity(x, 0, 0, "x0+2*x1");
        CHECK.due("p15: neither 1 nor 2", x.best(3, 1, 3), 3);
        x.lose(4);
        CHECK.due("p15: MISSING ones are no matter", x.best(3, 1, 3), 3);
    }

    /** All others are lost: the PARITY tells the only DATA by any number but 0. */
    private static void bestAlone() {
        RepairGroups x = new RepairGroups();
        x.data(0, 0);
        Check.parity(x, 0, 0, "0*x0");
        CHECK.due("p15: alone", x.best(1, 0, 1), 1);
        CHECK.due("p15: with it", x.best(1, 0, 0), 0);
        CHECK.due("p15: all lost", x.best(1, 0, 2), 0);
        CHECK.due("p15: what it tells not", x.best(1, 1, 1), 0);
        Check.parity(x, 0, 0, "9*x0");
        CHECK.due("p15: three", x.best(1, 0, 2), 1);
        CHECK.due("p15: not with x1 in it", x.best(2, 1, 2), 0);
    }

    private static void bestRefused() {
        RepairGroups x = new RepairGroups();
        x.data(0, 0);
        Check.parity(x, 0, 0, "x0");
        CHECK.due("p15: a DATA", x.best(0, 0, 0), -1);
        CHECK.due("p15: no node", x.best(2, 0, 0), -1);
        CHECK.due("p15: node -1", x.best(-1, 0, 0), -1);
        CHECK.due("p15: data 5", x.best(1, 5, 99), -1);
        CHECK.due("p15: data -1", x.best(1, -1, 0), -1);
        CHECK.due("p15: e -1", x.best(1, 0, -1), -2);
        CHECK.due("p15: e 11", x.best(1, 0, 11), -2);
    }
}
