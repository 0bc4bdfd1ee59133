/** Promises 26, 27 and 29 at their edges: a test for each sentence. */
public final class EdgeImageTest {
    private static final Check CHECK = new Check("EdgeImageTest");

    public static void main(String[] args) {
        thereIsNone();
        imageOfNothing();
        imageOfAll();
        imageChangesNothing();
        undoAfterRefusals();
        undoOfEach();
        undoTwice();
        lastImage();
        notOfIt();
        countBad();
        countEmpty();
        countFull();
        CHECK.end();
    }

    private static void no(Twins.Calls made, String call, Twins.Call it, long want) {
        Twins.unchanged(CHECK, made, call, it, want);
    }

    private static void thereIsNone() {
        CHECK.sentence("p27 STATE: there is none.");
        no(Twins.EMPTY, "undo()", x -> x.undo(), -3);
        Twins.Calls some = x -> {
            x.data(6, 3);
            Check.parity(x, 5, 4, "x0+x1");
            x.write(0, 5);
            x.row(0, 0, 5);
            x.see(0, 5);
            x.plan(0, 1);
            x.book(0, 6);
            x.lose(1);
            x.tape(0, 0, 2);
            Check.feed(x, "x0");
        };
        no(some, "undo()", x -> x.undo(), -3);
        RepairGroups x = new RepairGroups();
        CHECK.due("undo() twice", x.undo() + x.undo(), -6);
        x.image();
        CHECK.due("undo() when there is one", x.undo(), 0);
    }

    private static void imageOfNothing() {
        CHECK.sentence("p26 how many NODES there are: none");
        RepairGroups x = new RepairGroups();
        CHECK.due("image()", x.image(), 0);
        Check.parity(x, 0, 0, "x0");
        x.data(0, 0);
        x.see(0, 3);
        x.plan(0, 0);
        x.book(0, 1);
        x.lose(0);
        CHECK.due("undo()", x.undo(), 0);
        for (int what = 0; what <= 5; what++) {
            CHECK.due("count(" + what + ")", x.count(what), 0);
        }
        CHECK.due("told(2)", x.told(2), 0);
        CHECK.due("told(6)", x.told(6), -5);
        CHECK.due("rank(1)", x.rank(1), -1);
        CHECK.due("ends(0)", x.ends(0), 0);
        CHECK.due("ways(0)", x.ways(0), 1);
        CHECK.due("can(0)", x.can(0), -1);
        CHECK.due("looked()", x.looked(), -5);
        CHECK.due("data(0, 0)", x.data(0, 0), 0);
        CHECK.due("it is THERE", x.told(2), 0);
        CHECK.due("it is DATA 0", x.of(0, 2), 0);
    }

    private static void imageOfAll() {
        CHECK.sentence("p26 how many NODES there are: ten");
        RepairGroups x = new RepairGroups();
        Twins.FULL.on(x);
        CHECK.due("image()", x.image(), 10);
        x.lose(0);
        x.lose(4);
        x.write(1, 9);
        x.see(-1, 0);
        x.plan(-1, 0);
        x.book(-1, 0);
        CHECK.due("undo()", x.undo(), 10);
        int[] counts = {10, 5, 5, 10, 8, 100};
        for (int what = 0; what <= 5; what++) {
            CHECK.due("count(" + what + ")", x.count(what), counts[what]);
        }
        CHECK.due("told(2)", x.told(2), 512);
        CHECK.due("of(1, 5)", x.of(1, 5), 4);
        CHECK.due("ways(1)", x.ways(1), 0x147AD);
        CHECK.due("looked()", x.looked(), 5);
    }

    private static void imageChangesNothing() {
        CHECK.sentence("THE IMAGE is taken: all else is as it was");
        Twins.Calls taken = x -> {
            Twins.RICH.on(x);
            x.image();
        };
        no(taken, "image() again", x -> x.image(), 5);
        no(taken, "undo() of what is now", x -> x.undo(), 5);
    }

    private static void undoAfterRefusals() {
        CHECK.sentence("What is answered so changes nothing: THE IMAGE, too");
        RepairGroups x = new RepairGroups();
        x.data(0, 0);
        x.image();
        x.write(0, 3);
        x.lose(0);
        CHECK.due("refused: lose(0)", x.lose(0), -3);
        CHECK.due("refused: data(7, 0)", x.data(7, 0), -1);
        CHECK.due("refused: write(0, 4)", x.write(0, 4), -3);
        CHECK.due("undo()", x.undo(), 1);
        CHECK.due("of(0, 5)", x.of(0, 5), 0);
    }

    /** Each thing of THE IMAGE is changed alone. */
    private static void undoOfEach() {
        CHECK.sentence("THE IMAGE: NODES with all that is theirs, SEEN, the PLAN, the BOOK.");
        Twins.Calls taken = x -> {
            Twins.RICH.on(x);
            x.image();
        };
        back(taken, "data", x -> x.data(0, 0));
        back(taken, "write", x -> x.write(0, 1));
        back(taken, "row", x -> x.row(0, 2, 8));
        back(taken, "lose", x -> x.lose(0));
        back(taken, "repair", x -> x.repair(3));
        back(taken, "see", x -> x.see(0, 9));
        back(taken, "see none", x -> x.see(-1, 0));
        back(taken, "see others", x -> x.see(-1, 0) + x.see(1, 1) + x.see(1, 2) + x.see(1, 3));
        back(taken, "plan", x -> x.plan(0, 0));
        back(taken, "plan none", x -> x.plan(-1, 0));
        back(taken, "plan others", x -> x.plan(-1, 0) + x.plan(0, 0) + x.plan(0, 2) + x.plan(0, 4));
        back(taken, "book", x -> x.book(0, 9));
        back(taken, "book none", x -> x.book(-1, 0));
        back(taken, "book others", x -> x.book(-1, 0) + x.book(1, 1) + x.book(1, 2) + x.book(1, 3));
    }

    private static void back(Twins.Calls taken, String call, Twins.Call it) {
        no(taken, call + ", and undo()", x -> {
            it.on(x);
            return x.undo();
        }, 5);
    }

    private static void undoTwice() {
        CHECK.sentence("All is as THE IMAGE: THE IMAGE stays");
        RepairGroups x = new RepairGroups();
        x.data(0, 0);
        x.image();
        for (int n = 0; n < 3; n++) {
            x.write(0, 9);
            x.data(0, 0);
            x.lose(0);
            x.see(1, 4);
            CHECK.due("undo()", x.undo(), 1);
            CHECK.due("of(0, 5)", x.of(0, 5), 0);
            CHECK.due("count(2)", x.count(2), 0);
        }
    }

    private static void lastImage() {
        CHECK.sentence("THE IMAGE is taken: it takes the other's place");
        RepairGroups x = new RepairGroups();
        x.data(0, 0);
        x.write(0, 1);
        x.see(0, 1);
        CHECK.due("image()", x.image(), 1);
        x.write(0, 2);
        x.see(-1, 0);
        CHECK.due("image()", x.image(), 1);
        x.write(0, 3);
        x.see(0, 5);
        x.see(0, 5);
        x.undo();
        CHECK.due("of(0, 5)", x.of(0, 5), 2);
        CHECK.due("count(2)", x.count(2), 0);
    }

    private static void notOfIt() {
        CHECK.sentence("THE IMAGE: not POLY, THE TEXT, TAPES");
        RepairGroups x = new RepairGroups();
        x.tape(0, 0, 1);
        x.tape(1, 2, 2);
        x.feed('x');
        x.image();
        x.field(31);
        x.feed('4');
        x.item(0, 0, 5);
        x.tape(1, -1, 0);
        x.undo();
        CHECK.due("told(0)", x.told(0), 31);
        CHECK.due("told(1)", x.told(1), 3);
        CHECK.due("count(5)", x.count(5), 2);
        CHECK.due("read(0, 0)", x.read(0, 0), 5);
        CHECK.due("item(1, 0, 0)", x.item(1, 0, 0), -11);
        CHECK.due("parity(0, 0) by THE TEXT", x.parity(0, 0), 0);
        CHECK.due("of(0, 14)", x.of(0, 14), 1);
        x.undo();
        CHECK.due("count(5), empty still", x.count(5), 0);
    }

    private static void countBad() {
        CHECK.sentence("p29 BAD.");
        for (int what : Check.outside(0, 5)) {
            for (Twins.Calls made : Twins.ALL) {
                no(made, "count(" + what + ")", x -> x.count(what), -2);
            }
        }
    }

    private static void countEmpty() {
        CHECK.sentence("p29 How many: none");
        for (int w = 0; w <= 5; w++) {
            int what = w;
            no(Twins.EMPTY, "count(" + what + ")", x -> x.count(what), 0);
        }
    }

    private static void countFull() {
        CHECK.sentence("p29 How many: all there can be");
        int[] want = {10, 5, 5, 10, 8, 100};
        int[] rich = {5, 3, 3, 3, 3, 7};
        for (int w = 0; w <= 5; w++) {
            int what = w;
            no(Twins.FULL, "count(" + what + ")", x -> x.count(what), want[what]);
            no(Twins.RICH, "count(" + what + ")", x -> x.count(what), rich[what]);
        }
    }
}
