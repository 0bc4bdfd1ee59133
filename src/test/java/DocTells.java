/** The document's words on what tells what: TELL, HELP, REPAIRED, RANK, SAFE, COUNT, DISTANCE, LOCAL, BEST. */
final class DocTells {
    private final Doc doc;
    private final Check check;

    DocTells(Doc doc) {
        this.doc = doc;
        check = doc.check;
    }

    void all() {
        tell();
        help();
        repaired();
        asked();
        ranks();
        safe();
        distance();
        local();
        best();
    }

    /** Two groups of two DATA and their sum, and a PARITY over all: COSTS 4, 3, 1, 1, 2, 10, 1. */
    static RepairGroups groups(Doc doc) {
        return doc.store("0 3", "0 2", "0 0", "0 0", "0 1 x0+x1", "0 9 x2+x3", "0 0 x0+2*x1+4*x2+8*x3");
    }

    private void tell() {
        doc.says("Some NODES TELL a FORM, if it is a sum of theirs times numbers of THE FIELD.");
        RepairGroups x = doc.store("0 0", "0 0", "0 0", "0 0 x0+x1", "0 0 x0+2*x1");
        check.due("lose DATA 0", x.lose(0), 0);
        check.due("lose DATA 1", x.lose(1), 0);
        check.due("lose DATA 2", x.lose(2), 0);
        check.due("the two PARITIES tell DATA 0 and 1, not 2", x.told(3), 3);
        check.due("both are read for DATA 0", x.of(0, 6), 24);
        check.due("lose a PARITY", x.lose(3), 0);
        check.due("one alone tells none", x.told(3), 0);
        RepairGroups y = doc.store("0 0", "0 0 7*x0", "0 0 0*x0");
        check.due("times a number", y.of(0, 6), 2);
        check.due("all times 0 are 0", y.of(2, 6), 0);
    }

    private void help() {
        doc.says("HELP of a NODE: of all sets of others that are THERE and TELL it that whose COSTS, together, are least (of several "
            + "the least as bits).");
        RepairGroups x = groups(doc);
        int[] help = {18, 92, 90, 86, 78, 12, 30};
        int[] costs = {5, 5, 7, 7, 6, 2, 7};
        for (int node = 0; node < 7; node++) {
            check.due("HELP of " + node, x.of(node, 6), help[node]);
            check.due("its COSTS", x.of(node, 7), costs[node]);
        }
        check.due("lose 1", x.lose(1), 0);
        check.due("HELP of 0 without 1: as dear, greater as bits", x.of(0, 6), 92);
        check.due("its COSTS", x.of(0, 7), 5);
        check.due("lose 6", x.lose(6), 0);
        check.due("HELP of 0: none is left", x.of(0, 6), -5);
        check.due("HELP of 5", x.of(5, 6), 12);
        RepairGroups y = doc.store("0 0", "0 0 x0", "0 0 x0", "0 1 x0");
        check.due("of three the cheapest, of two the least", y.of(0, 6), 2);
        check.due("without itself", y.of(1, 6), 1);
    }

    private void repaired() {
        doc.says("REPAIRED: one that is MISSING is THERE again; READS of each of its HELP is 1 more (9999 at most).");
        RepairGroups x = groups(doc);
        check.due("write", x.write(0, 9), 0);
        check.due("lose", x.lose(0), 9);
        check.due("repair", x.repair(0), 9);
        check.due("who is MISSING", x.told(2), 0);
        for (int node = 0; node < 7; node++) {
            check.due("READS of " + node, x.of(node, 3), node == 1 || node == 4 ? 1 : 0);
        }
        check.due("it is THERE", x.repair(0), -3);
        check.due("READS of 1", x.of(1, 3), 1);
    }

    private void asked() {
        doc.says("==== 2 All that follows is asked and changes nothing.");
        for (Twins.Calls made : Twins.ALL) {
            RepairGroups x = new RepairGroups();
            made.on(x);
            no(made, "rank(3)", y -> y.rank(3), x.rank(3));
            no(made, "safe(2)", y -> y.safe(2), x.safe(2));
            no(made, "told(6)", y -> y.told(6), x.told(6));
            no(made, "of(1, 8)", y -> y.of(1, 8), x.of(1, 8));
            no(made, "best(2, 1, 2)", y -> y.best(2, 1, 2), x.best(2, 1, 2));
            no(made, "best(7, 1, 2)", y -> y.best(7, 1, 2), x.best(7, 1, 2));
            no(made, "ways(1)", y -> y.ways(1), x.ways(1));
            no(made, "can(1)", y -> y.can(1), x.can(1));
            no(made, "odds(2, 0)", y -> y.odds(2, 0), x.odds(2, 0));
            no(made, "mean(0)", y -> y.mean(0), x.mean(0));
            no(made, "ends(0)", y -> y.ends(0), x.ends(0));
            no(made, "ends(1)", y -> y.ends(1), x.ends(1));
            no(made, "looked()", y -> y.looked(), x.looked());
        }
    }

    private void no(Twins.Calls made, String call, Twins.Call it, long want) {
        Twins.unchanged(check, made, call, it, want);
    }

    private void ranks() {
        doc.says("RANK of a set of NODES: the fewest of them that TELL all of the set.");
        RepairGroups x = groups(doc);
        check.due("none", x.rank(0), 0);
        check.due("one", x.rank(64), 1);
        check.due("a group", x.rank(19), 2);
        check.due("of two groups two each", x.rank(27), 3);
        check.due("both groups", x.rank(63), 4);
        check.due("all", x.rank(127), 4);
        check.due("DATA", x.rank(15), 4);
        check.due("PARITIES", x.rank(112), 3);
        check.due("a FORM of zeros", doc.store("0 0 0*x0").rank(1), 0);
        check.due("twice the same", doc.store("0 0 3*x4", "0 0 x4").rank(3), 1);
    }

    private void safe() {
        doc.says("SAFE: a set of NODES is, if, were these MISSING and all others THERE, those would TELL all DATA.");
        RepairGroups x = doc.store("0 0", "0 0", "0 0 x0+x1");
        check.due("each alone is", x.safe(1), 3);
        check.due("no two are", x.safe(2), 0);
        check.due("the empty set is", x.safe(0), 1);
        check.due("lose", x.lose(0), 0);
        check.due("lose", x.lose(1), 0);
        check.due("who is MISSING does not matter", x.safe(1), 3);
        check.due("a PARITY may be lost, if all DATA are told", doc.store("0 0", "0 0 x1").safe(1), 1);
        doc.says("COUNT of e: how many sets of e NODES are SAFE.");
        RepairGroups y = groups(doc);
        int[] count = {1, 7, 21, 27, 0, 0, 0, 0, 0, 0, 0};
        for (int e = 0; e <= 10; e++) {
            check.due("COUNT of " + e, y.safe(e), count[e]);
        }
    }

    private void distance() {
        doc.says("DISTANCE: the least e (0 and more) such that not all sets of e NODES are SAFE (-5: there are no DATA).");
        check.due("two groups", groups(doc).told(6), 3);
        check.due("one group", doc.store("0 0", "0 0", "0 0 x0+x1").told(6), 2);
        check.due("DATA alone", doc.store("0 0", "0 0").told(6), 1);
        check.due("a DATA five times", doc.store("0 0", "0 0 x0", "0 0 2*x0", "0 0 x0", "0 0 x0").told(6), 5);
        check.due("no NODES", doc.store().told(6), -5);
        check.due("PARITIES alone", doc.store("0 0 x0").told(6), -5);
    }

    private void local() {
        doc.says("LOCAL of a NODE: how many others, at least, MISSING ones too, TELL it (-5: none do).");
        RepairGroups x = groups(doc);
        for (int node = 0; node < 7; node++) {
            check.due("LOCAL of " + node, x.of(node, 8), node == 6 ? 4 : 2);
            check.due("lose", x.lose(node), 0);
        }
        check.due("all are MISSING", x.of(0, 8), 2);
        check.due("and there is no HELP", x.of(0, 6), -5);
        check.due("nobody tells it", doc.store("0 0", "0 0", "0 0 x0").of(1, 8), -5);
        check.due("nobody is needed", doc.store("0 0 0*x0").of(0, 8), 0);
    }

    private void best() {
        doc.says("BEST of a PARITY, a DATA and e: the number 0 .. 15 such that, were it that for the DATA in its FORM, COUNT of e is "
            + "greatest (of several the least).");
        RepairGroups x = doc.store("0 0", "0 0", "0 0 x0");
        check.due("COUNT of 1 as it is", x.safe(1), 2);
        check.due("all but 0 do", x.best(2, 1, 1), 1);
        check.due("all are as good", x.best(2, 1, 0), 0);
        check.due("none does", x.best(2, 1, 3), 0);
        RepairGroups y = doc.store("0 0", "0 0", "0 0 x0+x1", "0 0 x0+x1");
        check.due("COUNT of 2 as it is", y.safe(2), 5);
        check.due("0 and 1 are worse", y.best(3, 1, 2), 2);
        check.due("its FORM stays", y.of(3, 11), 1);
        check.due("a DATA that hasn't come: as good without", y.best(3, 4, 1), 0);
        RepairGroups z = doc.store("0 0", "0 0 x0+3*x1");
        check.due("a number that is there may be bad", z.best(1, 1, 1), 0);
        check.due("COUNT of 1 with it", z.safe(1), 1);
    }
}
