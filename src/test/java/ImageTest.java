/** Promises 26, 27 and 29: image, undo, count. */
public final class ImageTest {
    private static final Check CHECK = new Check("ImageTest");

    public static void main(String[] args) {
        none();
        all();
        notOfIt();
        nodesAfter();
        often();
        counts();
        CHECK.end();
    }

    private static void none() {
        RepairGroups x = new RepairGroups();
        CHECK.due("p27: there is none", x.undo(), -3);
        CHECK.due("p26: of nothing", x.image(), 0);
        x.data(0, 0);
        CHECK.due("p27: nothing again", x.undo(), 0);
        CHECK.due("p27: no nodes", x.count(0), 0);
        CHECK.due("p27: no DATA", x.count(1), 0);
        CHECK.due("p27: of(0, 0)", x.of(0, 0), -1);
    }

    private static void all() {
        RepairGroups x = new RepairGroups();
        x.data(6, 3);
        Check.parity(x, 0, 0, "2*x0");
        x.write(0, 4);
        x.row(0, 1, 7);
        x.lose(1);
        x.repair(1);
        x.lose(1);
        x.see(0, 4);
        x.plan(0, 0);
        x.book(0, 5);
        CHECK.due("p26: two", x.image(), 2);
        x.repair(1);
        x.write(0, 9);
        x.row(0, 1, 2);
        x.lose(0);
        x.see(1, 8);
        x.plan(1, 1);
        x.book(1, 1);
        x.data(0, 0);
        Check.parity(x, 0, 0, "x1");
        CHECK.due("p27: two", x.undo(), 2);
        CHECK.due("p27: nodes", x.count(0), 2);
        CHECK.due("p27: DATA", x.count(1), 1);
        CHECK.due("p27: SEEN", x.count(2), 1);
        CHECK.due("p27: PLAN", x.count(3), 1);
        CHECK.due("p27: BOOK", x.count(4), 1);
        CHECK.due("p27: MISSING", x.told(2), 2);
        CHECK.due("p27: SYMBOL", x.of(0, 5), 4);
        CHECK.due("p27: READS", x.of(0, 3), 1);
        CHECK.due("p27: COST by ROW", x.of(0, 4), 4 + 1 + 7);
        CHECK.due("p27: KIND", x.of(0, 0), 6);
        CHECK.due("p27: FORM", x.of(1, 10), 2);
        CHECK.due("p27: the hidden SYMBOL", x.repair(1), 8);
        CHECK.due("p27: what is SEEN", x.ways(1), 4);
        CHECK.due("p27: the PLAN's rows", x.ends(0), 1);
        CHECK.due("p27: the BOOK's rows", x.looked(), 0);
        x.see(-1, 0);
        x.plan(-1, 0);
        x.book(-1, 0);
        x.see(1, 3);
        x.plan(2, 1);
        x.book(1, 8);
        CHECK.due("p27: once more", x.undo(), 2);
        CHECK.due("p27: SEEN again", x.ways(1), 4);
        CHECK.due("p27: the PLAN again", x.ends(0), 3);
        CHECK.due("p27: the BOOK again", x.looked(), 0);
    }

    private static void notOfIt() {
        RepairGroups x = new RepairGroups();
        x.tape(0, 2, 3);
        x.feed('x');
        x.image();
        x.field(25);
        x.item(0, 1, 77);
        x.tape(1, 0, 1);
        x.feed('0');
        CHECK.due("p27: undo()", x.undo(), 0);
        CHECK.due("p27: POLY is not of it", x.told(0), 25);
        CHECK.due("p27: THE TEXT is not of it", x.count(5), 2);
        CHECK.due("p27: TAPES are not of it", x.read(0, 1), 77);
        CHECK.due("p27: a new TAPE stays", x.read(1, 0), 0);
    }

    /** Nodes that come in place of others, and what they tell. */
    private static void nodesAfter() {
        RepairGroups x = new RepairGroups();
        x.data(0, 0);
        x.image();
        Check.parity(x, 0, 0, "x0");
        Check.parity(x, 0, 0, "x0");
        CHECK.due("p13: alike", x.rank(7), 1);
        CHECK.due("p27: undo()", x.undo(), 1);
        CHECK.due("p13: gone", x.rank(2), -1);
        CHECK.due("p6: another", Check.parity(x, 1, 5, "x0+x1"), 1);
        CHECK.due("p4: another", x.data(0, 0), 2);
        CHECK.due("p13: not alike", x.rank(7), 2);
        CHECK.due("p13: the sum alone", x.rank(2), 1);
        CHECK.due("p8: HELP", x.of(0, 6), 6);
        CHECK.due("p8: its KIND", x.of(1, 0), 1);
        CHECK.due("p8: READS from 0", x.of(1, 3), 0);
        x.row(0, 0, 1);
        x.write(1, 5);
        x.undo();
        x.data(0, 0);
        CHECK.due("p4: its SYMBOL is 0 as it comes", x.of(1, 5), 0);
        CHECK.due("p6: by that", Check.parity(x, 0, 0, "x1"), 2);
        CHECK.due("p8: 0", x.of(2, 5), 0);
    }

    private static void often() {
        RepairGroups x = new RepairGroups();
        x.data(0, 0);
        CHECK.due("p26: one", x.image(), 1);
        x.data(0, 0);
        CHECK.due("p26: two take its place", x.image(), 2);
        x.data(0, 0);
        CHECK.due("p27: two", x.undo(), 2);
        CHECK.due("p27: two still", x.undo(), 2);
        x.lose(0);
        CHECK.due("p27: two, and all THERE", x.undo(), 2);
        CHECK.due("p12: nobody is MISSING", x.told(2), 0);
    }

    private static void counts() {
        RepairGroups x = new RepairGroups();
        for (int what = 0; what <= 5; what++) {
            CHECK.due("p29: count(" + what + ")", x.count(what), 0);
        }
        CHECK.due("p29: count(-1)", x.count(-1), -2);
        CHECK.due("p29: count(6)", x.count(6), -2);
        x.data(0, 0);
        Check.parity(x, 0, 0, "x0");
        x.see(0, 0);
        x.plan(0, 0);
        x.plan(0, 0);
        x.book(0, 0);
        x.book(0, 0);
        x.book(0, 0);
        Check.feed(x, "x0+x");
        int[] want = {2, 1, 1, 2, 3, 4};
        for (int what = 0; what <= 5; what++) {
            CHECK.due("p29: count(" + what + ") now", x.count(what), want[what]);
        }
    }
}
