/** The document's words on TAPES, what is JUDGED, the host's refusals, and on answers. */
final class DocTapes {
    private static final long NO = Long.MIN_VALUE;

    private final Doc doc;
    private final Check check;

    DocTapes(Doc doc) {
        this.doc = doc;
        check = doc.check;
    }

    void all() {
        sorts();
        judged();
        judgedAtTheEnds();
        refusals();
        answers();
        changesNothing();
        sets();
        heads();
    }

    private void sorts() {
        doc.says("==== 3 TAPES 0 .. 5 hold nothing (at first), or a row of 0 bytes, 1 shorts, 2 ints, 3 longs, 4 booleans (items 0, 1).");
        long v = 0x1234_5678_9ABC_DEF0L;
        long[] items = {(byte) 0xF0, (short) 0xDEF0, 0x9ABC_DEF0, v, 1};
        RepairGroups x = new RepairGroups();
        for (int tape = 0; tape <= 5; tape++) {
            check.due("at first", x.item(tape, 0, 0), -11);
            check.due("at first", x.read(tape, 0), NO);
        }
        for (int sort = 0; sort <= 4; sort++) {
            check.due("tape " + sort, x.tape(sort, sort, 2), 1);
            check.due("item", x.item(sort, 1, v), 1);
            check.due("an item of sort " + sort, x.read(sort, 1), items[sort]);
            check.due("the other", x.read(sort, 0), 0);
        }
        check.due("tape 6", x.tape(6, 0, 1), -1);
        check.due("tape -1", x.tape(-1, 0, 1), -1);
        check.due("sort 5", x.tape(0, 5, 1), -2);
        check.due("sort -2", x.tape(0, -2, 1), -2);
    }

    /** A row of bytes on a TAPE. */
    private static void bytes(RepairGroups x, int tape, int... items) {
        x.tape(tape, 0, items.length);
        for (int i = 0; i < items.length; i++) {
            x.item(tape, i, items[i]);
        }
    }

    private void judged() {
        doc.says("SYMBOLS of NODES told by a row of bytes (-1: MISSING), from a place on, NODE by NODE, are JUDGED: the first that is "
            + "otherwise (counted from 0 from that place on);");
        RepairGroups x = doc.store("0 0", "0 0", "0 0 x0+x1");
        x.write(0, 9);
        x.write(1, 4);
        bytes(x, 0, 7, 7, 9, 4, 13, 9, 4, 12);
        check.due("from 2 on", x.judge(0, 2), -5);
        check.due("from 5 on: node 2", x.judge(0, 5), 2);
        check.due("from 0 on: node 0", x.judge(0, 0), 0);
        x.lose(1);
        check.due("node 1 is MISSING", x.judge(0, 2), 1);
        bytes(x, 1, 9, -1, 13);
        check.due("as told", x.judge(1, 0), -5);
        x.repair(1);
        check.due("node 1 is THERE", x.judge(1, 0), 1);
        doc.says("-5: none, or there are no NODES (wherever the place is, also if the TAPE holds nothing);");
        RepairGroups y = new RepairGroups();
        for (int place : new int[] {0, 1, -1, 60, Integer.MIN_VALUE, Integer.MAX_VALUE}) {
            check.due("no NODES, nothing on the TAPE, place " + place, y.judge(5, place), -5);
            y.tape(0, 0, 1);
            check.due("no NODES, place " + place, y.judge(0, place), -5);
        }
    }

    private void judgedAtTheEnds() {
        doc.says("100 and how many were looked at, if the row ends ahead of that (or the place is below 0, or the TAPE holds nothing).");
        RepairGroups x = doc.store("0 0", "0 0", "0 0 x0+x1");
        bytes(x, 0, 0, 0, 0);
        check.due("all three", x.judge(0, 0), -5);
        check.due("two, then it ends", x.judge(0, 1), 102);
        check.due("one, then it ends", x.judge(0, 2), 101);
        check.due("none", x.judge(0, 3), 100);
        check.due("beyond", x.judge(0, 4), 100);
        check.due("below 0", x.judge(0, -1), 100);
        check.due("nothing on the TAPE", x.judge(1, 0), 100);
        x.write(1, 1);
        check.due("otherwise ahead of the end", x.judge(0, 1), 1);
        check.due("it ends ahead of that", x.judge(0, 2), 101);
    }

    private void refusals() {
        doc.says("The host's refusals: NOTHING (-11): nothing is there; CAST (-12): another sort or KIND; PLACE (-13): no such place; "
            + "SIZE (-14): a size below 0.");
        RepairGroups x = doc.store("1 0");
        x.tape(0, 0, 2);
        x.tape(1, 1, 2);
        check.due("no item", x.item(2, 0, 0), -11);
        check.due("no NODE", x.taken(1, 0), -11);
        check.due("nothing to shift", x.shift(0, 0, 2, 0, 1), -11);
        check.due("another KIND", x.taken(0, 2), -12);
        check.due("another sort", x.shift(0, 0, 1, 0, 1), -12);
        check.due("another sort", x.judge(1, 0), -12);
        check.due("no such place", x.item(0, 2, 0), -13);
        check.due("no such place", x.shift(0, 0, 0, 1, 2), -13);
        check.due("a size below 0", x.tape(0, 0, -1), -14);
    }

    private void answers() {
        doc.says("Answers: NONE (-1) no such number; BAD (-2) a number is not as told; STATE (-3) as told; FULL (-4); the first that a "
            + "call's words name.");
        RepairGroups x = doc.store("0 0", "0 0", "0 0", "0 0", "0 0", "0 0 x0");
        check.due("NONE, ahead of BAD and FULL", x.data(7, 10), -1);
        check.due("BAD, ahead of FULL", x.data(0, 10), -2);
        check.due("FULL", x.data(0, 0), -4);
        x.lose(0);
        check.due("NONE, ahead of BAD", x.write(5, 16), -1);
        check.due("BAD, ahead of STATE", x.write(0, 16), -2);
        check.due("STATE", x.write(0, 15), -3);
        check.due("BAD, ahead of STATE", x.field(16), -2);
        check.due("STATE", x.field(25), -3);
        check.due("CAST, ahead of PLACE", shifted(x, 0, 1), -12);
        check.due("NONE, ahead of NOTHING", x.shift(2, 0, 6, 0, -1), -1);
        check.due("NOTHING, ahead of PLACE", x.shift(2, 0, 0, 0, -1), -11);
        check.due("PLACE", x.shift(0, 0, 0, 0, -1), -13);
    }

    private static int shifted(RepairGroups x, int sort, int otherSort) {
        x.tape(0, sort, 1);
        x.tape(1, otherSort, 1);
        return x.shift(0, 0, 1, 0, 5);
    }

    private void changesNothing() {
        doc.says("What is answered so changes nothing; what is asked changes nothing.");
        for (Twins.Calls made : Twins.ALL) {
            no(made, "data(7, 0)", x -> x.data(7, 0), -1);
            no(made, "write(9, 0)", x -> x.write(9, 0), -1);
            no(made, "lose(-1)", x -> x.lose(-1), -1);
            no(made, "repair(10)", x -> x.repair(10), -1);
            no(made, "see(10, 0)", x -> x.see(10, 0), -1);
            no(made, "plan(3, 0)", x -> x.plan(3, 0), -1);
            no(made, "book(10, 0)", x -> x.book(10, 0), -1);
            no(made, "tape(0, 0, 61)", x -> x.tape(0, 0, 61), -2);
            no(made, "tape(0, 0, -1)", x -> x.tape(0, 0, -1), -14);
            no(made, "field(17)", x -> x.field(17), -2);
            no(made, "feed(128)", x -> x.feed(128), -2);
            no(made, "told(0)", x -> x.told(0), 19);
            no(made, "told(1)", x -> x.told(1), 2);
            no(made, "calc(1, 8, 8)", x -> x.calc(1, 8, 8), 12);
        }
        no(Twins.FULL, "data(0, 0)", x -> x.data(0, 0), -4);
        no(Twins.FULL, "parity(0, 0)", x -> x.parity(0, 0), -4);
        no(Twins.FULL, "feed(120)", x -> x.feed(120), -4);
        no(Twins.FULL, "lose(9)", x -> x.lose(9), -3);
        no(Twins.FULL, "of(9, 6): x4's DATA tells it", x -> x.of(9, 6), 16);
    }

    private void no(Twins.Calls made, String call, Twins.Call it, long want) {
        Twins.unchanged(check, made, call, it, want);
    }

    private void sets() {
        doc.says("A set of NODES: as bits; one that has others than those that came is none.");
        RepairGroups x = doc.store("0 0", "0 0", "0 0 x0+x1");
        for (int set = -9; set <= 70; set++) {
            int rank = set < 0 || set > 7 ? -1 : Math.min(2, Integer.bitCount(set));
            check.due("rank(" + set + ")", x.rank(set), rank);
        }
        check.due("bit 31 and bit 0", x.rank(Integer.MIN_VALUE + 1), -1);
        doc.says("The constants: `NO = Long.MIN_VALUE`: There is no such number.");
        check.due("NO", RepairGroups.NO, Long.MIN_VALUE);
        check.due("no such number", x.read(0, 0), RepairGroups.NO);
    }

    private void heads() {
        doc.tells("Ahead of the calls `field`, `calc` the interface says: ---- the field.");
        doc.tells("Ahead of the calls `data`, `feed`, `parity`, `row`, `of`, `write`, `lose`, `repair` the interface says: ---- nodes.");
        doc.tells("Ahead of the calls `told`, `rank`, `safe`, `best` the interface says: ---- what tells what.");
        doc.tells("Ahead of the calls `see`, `ways`, `can`, `odds`, `mean` the interface says: ---- seen, odds.");
        doc.tells("Ahead of the calls `plan`, `ends`, `book`, `looked` the interface says: ---- plans, books.");
        doc.tells("Ahead of the calls `judge`, `image`, `undo`, `taken`, `count`, `tape`, `item`, `read`, `shift` the interface says: "
            + "---- judging, the image, tapes.");
    }
}
