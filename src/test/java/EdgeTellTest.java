/** Promises 12 to 15, RANK, SAFE, COUNT, DISTANCE and BEST at their edges: a test for each sentence. */
public final class EdgeTellTest {
    private static final Check CHECK = new Check("EdgeTellTest");
    private static final int MAX = Integer.MAX_VALUE, MIN = Integer.MIN_VALUE;

    public static void main(String[] args) {
        toldNone();
        toldOfNoNodes();
        toldOfNoData();
        toldAllMissing();
        missingWithHelp();
        distanceEdges();
        rankNone();
        rankEdges();
        safeBad();
        safeOfNone();
        safeOfAll();
        safeBeyond();
        bestNone();
        bestBad();
        bestFirstOfTwo();
        bestLeastOfSeveral();
        bestZeroToFifteen();
        bestOfDataToCome();
        bestOfTheLastData();
        bestFull();
        CHECK.end();
    }

    private static void no(Twins.Calls made, String call, Twins.Call it, long want) {
        Twins.unchanged(CHECK, made, call, it, want);
    }

    private static RepairGroups data(int n) {
        RepairGroups x = new RepairGroups();
        for (int d = 0; d < n; d++) {
            x.data(0, 0);
        }
        return x;
    }

    private static void toldNone() {
        CHECK.sentence("p12 NONE.");
        for (int what : Check.outside(0, 6)) {
            for (Twins.Calls made : Twins.ALL) {
                no(made, "told(" + what + ")", x -> x.told(what), -1);
            }
        }
        no(Twins.RICH, "the least: told(0)", x -> x.told(0), 19);
        no(Twins.RICH, "the greatest: told(6)", x -> x.told(6), 2);
    }

    private static void toldOfNoNodes() {
        CHECK.sentence("p12 of no NODES");
        int[] want = {19, 2, 0, 0, 0, 1, -5};
        for (int w = 0; w <= 6; w++) {
            int what = w;
            no(Twins.EMPTY, "told(" + what + ")", x -> x.told(what), want[what]);
        }
    }

    private static void toldOfNoData() {
        CHECK.sentence("DISTANCE (-5: there are no DATA)");
        RepairGroups x = new RepairGroups();
        for (int n = 0; n < 5; n++) {
            Check.parity(x, 0, 0, "x" + n);
            CHECK.due("told(6) with " + (n + 1) + " PARITIES", x.told(6), -5);
            CHECK.due("told(5): all of no DATA", x.told(5), 1);
            CHECK.due("told(4)", x.told(4), n + 1);
        }
        for (int n = 0; n < 5; n++) {
            x.lose(n);
            CHECK.due("told(5), " + (n + 1) + " MISSING", x.told(5), 1);
            CHECK.due("told(4)", x.told(4), 4 - n);
        }
        CHECK.due("told(2)", x.told(2), 31);
        x.data(0, 0);
        CHECK.due("told(6) with a DATA", x.told(6), 2);
    }

    private static void toldAllMissing() {
        CHECK.sentence("p12 of NODES that are all MISSING");
        RepairGroups x = data(5);
        for (int n = 0; n < 5; n++) {
            Check.parity(x, 0, 0, "x0+" + (n + 2) + "*x" + n);
        }
        for (int node = 9; node >= 0; node--) {
            x.lose(node);
        }
        CHECK.due("told(2)", x.told(2), 1023);
        CHECK.due("told(3)", x.told(3), 0);
        CHECK.due("told(4)", x.told(4), 0);
        CHECK.due("told(5)", x.told(5), 0);
        CHECK.due("told(6): of who is MISSING it doesn't know", x.told(6), 2);
    }

    private static void missingWithHelp() {
        CHECK.sentence("p12 3 which of these have HELP (bits)");
        RepairGroups x = data(2);
        Check.parity(x, 0, 0, "0*x0");
        Check.parity(x, 0, 0, "x0");
        CHECK.due("nobody is MISSING", x.told(3), 0);
        x.lose(1);
        CHECK.due("none has", x.told(3), 0);
        x.lose(0);
        CHECK.due("one has", x.told(3), 1);
        x.lose(2);
        CHECK.due("by none needed, too", x.told(3), 5);
        x.lose(3);
        CHECK.due("that one alone", x.told(3), 4);
    }

    private static void distanceEdges() {
        CHECK.sentence("DISTANCE: the least e (0 and more) such that not all sets of e NODES are SAFE");
        RepairGroups x = data(1);
        CHECK.due("a DATA alone", x.told(6), 1);
        for (int n = 1; n <= 5; n++) {
            Check.parity(x, 0, 0, "x0");
            CHECK.due("with " + n + " alike", x.told(6), n + 1);
        }
        CHECK.due("COUNT one below", x.safe(5), 6);
        CHECK.due("COUNT there", x.safe(6), 0);
        RepairGroups y = data(5);
        for (int n = 1; n <= 5; n++) {
            CHECK.due("PARITY " + n, Check.parity(y, 0, 0, farthest(y, 4 + n)), 4 + n);
            CHECK.due("of five, with " + n, y.told(6), n + 1);
            CHECK.due("COUNT one below", y.safe(n), sets(5 + n, n));
            CHECK.due("COUNT there", y.safe(n + 1), 0);
        }
    }

    /** DATA d's number: what times the sum of d and a number of 5 and more is 1; by these any five tell all. */
    private static String farthest(RepairGroups x, int number) {
        StringBuilder text = new StringBuilder();
        for (int d = 0; d < 5; d++) {
            text.append(d == 0 ? "" : "+").append("0123456789abcdef".charAt(x.calc(2, 1, d ^ number))).append("*x").append(d);
        }
        return text.toString();
    }

    /** How many sets of e there are of n. */
    private static int sets(int n, int e) {
        return e == 0 ? 1 : sets(n, e - 1) * (n - e + 1) / e;
    }

    private static void rankNone() {
        CHECK.sentence("A set of NODES: as bits; one that has others than those that came is none .. p13 NONE: set.");
        for (int nodes = 0; nodes <= 9; nodes++) {
            RepairGroups x = new RepairGroups();
            for (int n = 0; n < nodes; n++) {
                if (n < 5) {
                    x.data(0, 0);
                } else {
                    Check.parity(x, 0, 0, "x0");
                }
            }
            CHECK.due("all of " + nodes, x.rank((1 << nodes) - 1), Math.min(5, nodes));
            for (int bit = nodes; bit <= 31; bit++) {
                CHECK.due("node " + bit + " of " + nodes, x.rank(1 << bit), -1);
                CHECK.due("node " + bit + " and others of " + nodes, x.rank(1 << bit | (1 << nodes) - 1), -1);
            }
            CHECK.due("-1 of " + nodes, x.rank(-1), -1);
        }
        int[] sets = {32, 33, 63, 64, 1023, 1024, -1, -32, MIN, MIN + 1, MAX};
        for (int set : sets) {
            no(Twins.RICH, "rank(" + set + ")", x -> x.rank(set), -1);
        }
        no(Twins.RICH, "the greatest: rank(31)", x -> x.rank(31), 4);
        no(Twins.FULL, "rank(1024)", x -> x.rank(1024), -1);
        no(Twins.FULL, "rank(-1)", x -> x.rank(-1), -1);
        no(Twins.FULL, "the greatest: rank(1023)", x -> x.rank(1023), 5);
        no(Twins.EMPTY, "rank(1)", x -> x.rank(1), -1);
    }

    private static void rankEdges() {
        CHECK.sentence("RANK of a set of NODES: the fewest of them that TELL all of the set, of the empty one none");
        no(Twins.EMPTY, "rank(0)", x -> x.rank(0), 0);
        no(Twins.RICH, "rank(0)", x -> x.rank(0), 0);
        RepairGroups x = new RepairGroups();
        Check.parity(x, 0, 0, "0*x0");
        CHECK.due("zeros alone", x.rank(1), 0);
        Check.parity(x, 0, 0, "x4");
        Check.parity(x, 0, 0, "7*x4");
        CHECK.due("one", x.rank(2), 1);
        CHECK.due("two alike", x.rank(6), 1);
        CHECK.due("with zeros", x.rank(7), 1);
        x.lose(1);
        x.lose(2);
        CHECK.due("MISSING ones", x.rank(7), 1);
    }

    private static void safeBad() {
        CHECK.sentence("p14 COUNT of e (0 .. 10). BAD.");
        for (int e : Check.outside(0, 10)) {
            for (Twins.Calls made : Twins.ALL) {
                no(made, "safe(" + e + ")", x -> x.safe(e), -2);
            }
        }
        no(Twins.FULL, "the least: safe(0)", x -> x.safe(0), 1);
        no(Twins.FULL, "the greatest: safe(10)", x -> x.safe(10), 0);
    }

    private static void safeOfNone() {
        CHECK.sentence("COUNT of 0: the empty set");
        for (Twins.Calls made : Twins.ALL) {
            no(made, "safe(0)", x -> x.safe(0), 1);
        }
        RepairGroups x = data(5);
        CHECK.due("DATA alone", x.safe(0), 1);
        CHECK.due("one of them can't be lost", x.safe(1), 0);
    }

    private static void safeOfAll() {
        CHECK.sentence("COUNT of all NODES: SAFE only if there are no DATA");
        RepairGroups x = new RepairGroups();
        for (int n = 1; n <= 5; n++) {
            Check.parity(x, 0, 0, "x0");
            CHECK.due("all of " + n + " PARITIES", x.safe(n), 1);
        }
        CHECK.due("four of them", x.safe(4), 5);
        x.data(0, 0);
        CHECK.due("five, a DATA too", x.safe(5), 6);
        CHECK.due("all six", x.safe(6), 0);
        RepairGroups y = new RepairGroups();
        Twins.FULL.on(y);
        CHECK.due("one of ten", y.safe(1), 10);
        CHECK.due("five of ten: one of each two", y.safe(5), 32);
        CHECK.due("six of ten", y.safe(6), 0);
        CHECK.due("all ten", y.safe(10), 0);
    }

    private static void safeBeyond() {
        CHECK.sentence("COUNT of more than there are: none");
        for (int e = 1; e <= 10; e++) {
            CHECK.due("safe(" + e + "), no NODES", new RepairGroups().safe(e), 0);
            CHECK.due("safe(" + e + "), a DATA", data(1).safe(e), 0);
        }
        RepairGroups x = new RepairGroups();
        Check.parity(x, 0, 0, "x0");
        CHECK.due("safe(1), a PARITY", x.safe(1), 1);
        CHECK.due("safe(2), a PARITY", x.safe(2), 0);
    }

    private static void bestNone() {
        CHECK.sentence("p15 NONE: node is no PARITY, data (0 .. 4, be it there or not)");
        no(Twins.EMPTY, "best(0, 0, 0)", x -> x.best(0, 0, 0), -1);
        for (int node : Check.outside(0, 4)) {
            no(Twins.RICH, "best(" + node + ", 0, 0)", x -> x.best(node, 0, 0), -1);
        }
        for (int node : Check.outside(0, 9)) {
            no(Twins.FULL, "best(" + node + ", 0, 0)", x -> x.best(node, 0, 0), -1);
        }
        int[] data = {0, 1, 3};
        for (int node : data) {
            no(Twins.RICH, "a DATA: best(" + node + ", 0, 0)", x -> x.best(node, 0, 0), -1);
        }
        for (int d : Check.outside(0, 4)) {
            no(Twins.RICH, "best(2, " + d + ", 0)", x -> x.best(2, d, 0), -1);
            no(Twins.FULL, "best(9, " + d + ", 1)", x -> x.best(9, d, 1), -1);
        }
        RepairGroups x = new RepairGroups();
        Check.parity(x, 0, 0, "x0");
        for (int d = 0; d <= 4; d++) {
            CHECK.due("none is there yet: best(0, " + d + ", 0)", x.best(0, d, 0), 0);
        }
    }

    private static void bestBad() {
        CHECK.sentence("p15 BAD: e (0 .. 10)");
        for (int e : Check.outside(0, 10)) {
            no(Twins.RICH, "best(2, 0, " + e + ")", x -> x.best(2, 0, e), -2);
            no(Twins.FULL, "best(9, 4, " + e + ")", x -> x.best(9, 4, e), -2);
        }
        no(Twins.RICH, "the least: best(2, 0, 0)", x -> x.best(2, 0, 0), 0);
        no(Twins.RICH, "the greatest: best(2, 0, 10)", x -> x.best(2, 0, 10), 0);
    }

    private static void bestFirstOfTwo() {
        CHECK.sentence("p15 NONE .. BAD: the first that a call's words name");
        no(Twins.RICH, "a DATA ahead of e", x -> x.best(0, 0, 11), -1);
        no(Twins.RICH, "no NODE ahead of e", x -> x.best(5, 0, -1), -1);
        no(Twins.RICH, "data ahead of e", x -> x.best(2, 5, 11), -1);
        no(Twins.RICH, "data below ahead of e", x -> x.best(2, -1, -1), -1);
        no(Twins.EMPTY, "all at once", x -> x.best(MIN, MAX, MIN), -1);
    }

    private static void bestLeastOfSeveral() {
        CHECK.sentence("COUNT of e is greatest (of several the least)");
        RepairGroups x = data(2);
        Check.parity(x, 0, 0, "f*x0+x1");
        CHECK.due("e 0: all are alike", x.best(2, 0, 0), 0);
        CHECK.due("e 1: all but 0", x.best(2, 0, 1), 1);
        CHECK.due("e 2: none is SAFE", x.best(2, 0, 2), 0);
        CHECK.due("e 3, all", x.best(2, 0, 3), 0);
        CHECK.due("e 10, more than there are", x.best(2, 0, 10), 0);
        CHECK.due("it stays as it is", x.of(2, 10), 15);
    }

    /** Numbers of PARITIES for DATA 0, 1, .., as signs; in the last of them the last DATA's is looked for: 1, 2, .. 15 is best. */
    private static final String[] BEST_BY = {
        "ba b0", "b9 5f", "66 48 13", "8c e1 1b f4", "44 de 43 38 45", "4b9 bc9 084 1a1", "68a 889 d02 2e1",
        "8eb 22a 26e 1a0", "9c6 546 391 fa6 eb2", "3bc 93c e36 11f 848", "d77 b31 557 23e 5f7", "7556 51a9 a99c 368c",
        "b8a7 9c5b 792f 4b8b", "a401 c552 dae7 d2c2", "911d fbf9 becf ac38"};

    private static RepairGroups parities(String numbers, int number) {
        String[] rows = numbers.split(" ");
        int last = rows[0].length() - 1;
        RepairGroups x = data(last + 1);
        for (int p = 0; p < rows.length; p++) {
            StringBuilder text = new StringBuilder();
            for (int d = 0; d <= last; d++) {
                boolean isIt = p == rows.length - 1 && d == last && number >= 0;
                char sign = isIt ? "0123456789abcdef".charAt(number) : rows[p].charAt(d);
                text.append(d == 0 ? "" : "+").append(sign).append("*x").append(d);
            }
            Check.parity(x, 0, 0, text.toString());
        }
        return x;
    }

    private static void bestZeroToFifteen() {
        CHECK.sentence("BEST .. the number 0 .. 15 such that, were it that for the DATA in its FORM, COUNT of e is greatest");
        for (int n = 0; n < BEST_BY.length; n++) {
            int data = BEST_BY[n].indexOf(' ');
            int nodes = data + BEST_BY[n].split(" ").length;
            int e = nodes - data;
            CHECK.due("by " + BEST_BY[n], parities(BEST_BY[n], -1).best(nodes - 1, data - 1, e), n + 1);
            for (int lost = 0; lost <= nodes; lost++) {
                int best = 0;
                for (int number = 1; number <= 15; number++) {
                    if (parities(BEST_BY[n], number).safe(lost) > parities(BEST_BY[n], best).safe(lost)) {
                        best = number;
                    }
                }
                CHECK.due("by " + BEST_BY[n] + ", e " + lost, parities(BEST_BY[n], -1).best(nodes - 1, data - 1, lost), best);
            }
        }
        RepairGroups x = data(2);
        String[] texts = {"x0+x1", "x0+2*x1", "x0+3*x1", "x0+4*x1", "x0"};
        for (String text : texts) {
            Check.parity(x, 0, 0, text);
        }
        CHECK.due("1, 2, 3, 4 there are, 0 is DATA 0: 5", x.best(6, 1, 5), 5);
        CHECK.due("all but 0 are alike: 1", x.best(6, 0, 5), 1);
    }

    private static void bestOfDataToCome() {
        CHECK.sentence("p15 data (0 .. 4, be it there or not)");
        RepairGroups x = data(1);
        Check.parity(x, 0, 0, "x0+9*x4");
        CHECK.due("0 for the one that hasn't come: by that it tells DATA 0", x.best(1, 4, 1), 0);
        CHECK.due("by 9 for it no number tells DATA 0", x.best(1, 0, 1), 0);
        Check.parity(x, 0, 0, "x4");
        CHECK.due("with x4 they tell it: 1", x.best(1, 0, 1), 1);
        CHECK.due("the numbers are as they were", x.of(1, 14), 9);
        RepairGroups y = data(1);
        Check.parity(y, 0, 0, "9*x4");
        CHECK.due("by no number for DATA 4 it tells DATA 0", y.best(1, 4, 1), 0);
        RepairGroups z = data(2);
        Check.parity(z, 0, 0, "x4");
        CHECK.due("nor DATA 0 and 1", z.best(2, 4, 2), 0);
        RepairGroups v = data(1);
        Check.parity(v, 0, 0, "x4");
        Check.parity(v, 0, 0, "x0");
        CHECK.due("another with DATA 4 is no matter", v.best(2, 0, 1), 1);
        RepairGroups w = data(1);
        Check.parity(w, 0, 0, "x0");
        Check.parity(w, 0, 0, "x3+x4");
        Check.parity(w, 0, 0, "5*x3+x4");
        CHECK.due("like another or not, DATA 0 is told without it", w.best(3, 4, 1), 0);
    }

    private static void bestOfTheLastData() {
        CHECK.sentence("p15 the last DATA, the last NODE");
        RepairGroups x = data(5);
        Check.parity(x, 0, 0, "x0+x1+x2+x3");
        CHECK.due("best(5, 4, 1)", x.best(5, 4, 1), 1);
        CHECK.due("best(5, 3, 1)", x.best(5, 3, 1), 1);
        for (int n = 6; n < 10; n++) {
            Check.parity(x, 0, 0, "x0");
        }
        CHECK.due("best(9, 4, 1)", x.best(9, 4, 1), 1);
        CHECK.due("of(9, 14)", x.of(9, 14), 0);
    }

    private static void bestFull() {
        CHECK.sentence("p15 of ten NODES");
        for (int e = 0; e <= 10; e++) {
            int lost = e;
            for (int node = 5; node <= 9; node++) {
                int parity = node;
                int d = node - 5;
                no(Twins.FULL, "best(" + node + ", " + d + ", " + e + ")", x -> x.best(parity, d, lost), e >= 1 && e <= 5 ? 1 : 0);
            }
        }
    }
}
