/** The document's promises 17 to 33. */
final class DocLaterPromises {
    private static final long NO = Long.MIN_VALUE;

    private final Doc doc;
    private final Check check;

    DocLaterPromises(Doc doc) {
        this.doc = doc;
        check = doc.check;
    }

    void all() {
        ways();
        can();
        odds();
        mean();
        plan();
        ends();
        book();
        looked();
        judge();
        image();
        undo();
        taken();
        count();
        tape();
        item();
        read();
        shift();
    }

    private void ways() {
        doc.says("`long ways(int what)`: What 0 WAYS, 1 LEAST. NO.");
        RepairGroups x = doc.store("0 0", "0 0", "0 0", "0 0", "0 0", "0 0 x0+x4");
        check.due("WAYS", x.ways(0), 1048576);
        check.due("LEAST", x.ways(1), 0);
        x.see(5, 6);
        check.due("WAYS", x.ways(0), 65536);
        check.due("LEAST", x.ways(1), 6);
        x.see(4, 15);
        check.due("LEAST: 9, 0, 0, 0, 15", x.ways(1), 0x9000F);
        x.see(0, 1);
        check.due("WAYS", x.ways(0), 0);
        check.due("LEAST: there are none", x.ways(1), NO);
        check.due("ways(2)", x.ways(2), NO);
        check.due("ways(-1)", x.ways(-1), NO);
    }

    private void can() {
        doc.says("`int can(int node)`: CAN (bits). NONE.");
        RepairGroups x = doc.store("0 0", "0 0 3*x0", "0 0 x1", "0 0 x0+x1");
        check.due("all", x.can(0), 65535);
        check.due("of a DATA that hasn't come", x.can(2), 1);
        x.see(1, 9);
        check.due("9 is 3 times 7", x.can(0), 1 << 7);
        check.due("9", x.can(1), 1 << 9);
        check.due("7 and 0", x.can(3), 1 << 7);
        check.due("can(4)", x.can(4), -1);
        check.due("can(-1)", x.can(-1), -1);
    }

    private void odds() {
        doc.says("`long odds(int e, int part)`: ODDS; part 0 above, 1 below the line. NO: e (0 .. 10), part.");
        RepairGroups x = doc.store("0 0", "0 0 x0", "0 0", "0 0 x1");
        check.due("4 of 6, above", x.odds(2, 0), 2);
        check.due("4 of 6, below", x.odds(2, 1), 3);
        check.due("0 of 4, above", x.odds(3, 0), 0);
        check.due("0 of 4, below", x.odds(3, 1), 1);
        int[][] none = {{5, 0}, {10, 1}, {11, 0}, {-1, 0}, {2, 2}, {2, -1}};
        for (int[] row : none) {
            check.due("odds(" + row[0] + ", " + row[1] + ")", x.odds(row[0], row[1]), NO);
        }
        check.due("of no NODES, above", new RepairGroups().odds(0, 0), 1);
        check.due("of no NODES, below", new RepairGroups().odds(0, 1), 1);
    }

    private void mean() {
        doc.says("`long mean(int part)`: MEAN; part likewise. NO.");
        RepairGroups x = doc.store("0 1", "0 4 x0", "0 0");
        check.due("5 and 2 by 2, above", x.mean(0), 7);
        check.due("5 and 2 by 2, below", x.mean(1), 2);
        check.due("mean(2)", x.mean(2), NO);
        check.due("mean(-1)", x.mean(-1), NO);
        x.lose(1);
        check.due("2 of the one MISSING alone, above", x.mean(0), 2);
        check.due("2 of the one MISSING alone, below", x.mean(1), 1);
        x.lose(0);
        check.due("none has", x.mean(0), NO);
        check.due("no NODES", new RepairGroups().mean(1), NO);
    }

    private void plan() {
        doc.says("`int plan(int what, int node)`: A row comes to the PLAN: how many there are (what -1: it is empty then, 0, whatever the "
            + "rest is). NONE: what (0 .. 2), node; FULL: 10.");
        RepairGroups x = doc.store("0 0", "0 0 x0");
        check.due("what 3", x.plan(3, 0), -1);
        check.due("what -2", x.plan(-2, 0), -1);
        check.due("node 2", x.plan(0, 2), -1);
        check.due("node -1", x.plan(0, -1), -1);
        for (int n = 1; n <= 10; n++) {
            check.due("row " + n, x.plan(n % 3, n % 2), n);
        }
        check.due("row 11", x.plan(0, 0), -4);
        check.due("empty", x.plan(-1, 99), 0);
        check.due("count(3)", x.count(3), 0);
    }

    private void ends() {
        doc.says("`int ends(int what)`: ENDS: what 0 who is MISSING (bits), 1 COSTS. NONE.");
        RepairGroups x = doc.store("0 6", "0 2 x0");
        x.lose(1);
        check.due("no row: who is MISSING", x.ends(0), 2);
        check.due("no row: COSTS", x.ends(1), 0);
        x.plan(1, 1);
        x.plan(0, 0);
        check.due("who is MISSING", x.ends(0), 1);
        check.due("COSTS", x.ends(1), 7);
        x.plan(1, 0);
        check.due("who is MISSING", x.ends(0), 0);
        check.due("COSTS", x.ends(1), 10);
        check.due("ends(2)", x.ends(2), -1);
        check.due("ends(-1)", x.ends(-1), -1);
    }

    private void book() {
        doc.says("`int book(int node, int symbol)`: A row comes to the BOOK: how many there are (node -1: it is empty then, 0, whatever "
            + "the rest is). NONE; BAD: symbol; FULL: 8.");
        RepairGroups x = doc.store("0 0", "0 0 x0");
        check.due("node 2", x.book(2, 0), -1);
        check.due("node -2", x.book(-2, 0), -1);
        check.due("symbol 16", x.book(0, 16), -2);
        check.due("symbol -1", x.book(0, -1), -2);
        for (int n = 1; n <= 8; n++) {
            check.due("row " + n, x.book(n % 2, 0), n);
        }
        check.due("row 9", x.book(0, 0), -4);
        check.due("empty", x.book(-1, 99), 0);
        check.due("count(4)", x.count(4), 0);
    }

    private void looked() {
        doc.says("`int looked()`: LOOKED at; -5.");
        RepairGroups x = doc.store("0 0", "0 0 2*x0");
        check.due("no rows", x.looked(), -5);
        x.book(0, 0);
        x.book(1, 0);
        x.book(0, 3);
        check.due("row 2", x.looked(), 2);
        x.write(0, 3);
        check.due("row 0", x.looked(), 0);
        x.book(-1, 0);
        x.book(1, 6);
        check.due("none", x.looked(), -5);
        x.lose(1);
        check.due("MISSING", x.looked(), 0);
    }

    private void judge() {
        doc.says("`int judge(int tape, int i)`: JUDGED from place i of a TAPE on. NONE: tape; CAST: it is no row of bytes.");
        RepairGroups x = doc.store("0 0", "0 0 x0");
        x.tape(0, 0, 4);
        x.item(0, 2, 5);
        x.item(0, 3, 5);
        check.due("from 0 on", x.judge(0, 0), -5);
        check.due("from 1 on", x.judge(0, 1), 1);
        check.due("from 3 on", x.judge(0, 3), 0);
        x.write(0, 5);
        check.due("from 2 on", x.judge(0, 2), -5);
        check.due("from 3 on", x.judge(0, 3), 101);
        check.due("tape 6", x.judge(6, 0), -1);
        check.due("tape -1", x.judge(-1, 0), -1);
        for (int sort = 1; sort <= 4; sort++) {
            x.tape(1, sort, 4);
            check.due("sort " + sort, x.judge(1, 0), -12);
        }
    }

    private void image() {
        doc.says("`int image()`: THE IMAGE is taken: how many NODES there are.");
        RepairGroups x = new RepairGroups();
        check.due("none", x.image(), 0);
        doc.come(x, "0 0", "0 0 x0");
        check.due("two", x.image(), 2);
        doc.come(x, "0 0");
        check.due("THE IMAGE of two", x.undo(), 2);
    }

    private void undo() {
        doc.says("`int undo()`: All is as THE IMAGE: how many NODES. STATE: there is none.");
        RepairGroups x = doc.store("0 0", "0 0 x0");
        check.due("there is none", x.undo(), -3);
        check.due("image", x.image(), 2);
        x.write(0, 4);
        x.lose(0);
        x.see(0, 1);
        x.plan(0, 1);
        x.book(0, 1);
        doc.come(x, "0 0");
        check.due("undo", x.undo(), 2);
        int[] count = {2, 1, 0, 0, 0, 0};
        for (int what = 0; what <= 5; what++) {
            check.due("count(" + what + ")", x.count(what), count[what]);
        }
        check.due("who is MISSING", x.told(2), 0);
        check.due("SYMBOL", x.of(0, 5), 0);
        check.due("again", x.undo(), 2);
    }

    private void taken() {
        doc.says("`int taken(int node, int k)`: A NODE taken for one of KIND k (0 .. 6), or one under that: its KIND. BAD: k; NOTHING: "
            + "no such NODE; CAST.");
        RepairGroups x = doc.store("4 0", "0 0 x0");
        int[] want = {-2, 4, 4, -12, -12, 4, -12, -12, -2};
        for (int k = -1; k <= 7; k++) {
            check.due("taken(0, " + k + ")", x.taken(0, k), want[k + 1]);
        }
        check.due("KIND 0 for 0", x.taken(1, 0), 0);
        check.due("KIND 0 for 1", x.taken(1, 1), -12);
        check.due("node 2", x.taken(2, 0), -11);
        check.due("node -1", x.taken(-1, 0), -11);
        check.due("BAD, ahead of NOTHING", x.taken(2, 7), -2);
    }

    private void count() {
        doc.says("`int count(int what)`: How many: 0 NODES, 1 DATA, 2 SEEN, 3 of the PLAN, 4 of the BOOK, 5 bytes of THE TEXT. BAD.");
        RepairGroups x = doc.store("0 0", "0 0 x0", "0 0", "0 0", "0 0 x1", "0 0 x2");
        x.see(0, 0);
        x.plan(0, 0);
        x.plan(0, 0);
        x.book(0, 0);
        x.book(0, 0);
        x.book(0, 0);
        x.book(0, 0);
        Check.feed(x, "x0+x1");
        int[] want = {-2, 6, 3, 1, 2, 4, 5, -2};
        for (int what = -1; what <= 6; what++) {
            check.due("count(" + what + ")", x.count(what), want[what + 1]);
        }
    }

    private void tape() {
        doc.says("`int tape(int tape, int sort, int n)`: A TAPE becomes a row of n (0 .. 60) of a sort, all 0, or holds nothing (sort -1: "
            + "n does not matter): 1. NONE: tape; BAD: sort, n above 60; SIZE.");
        RepairGroups x = new RepairGroups();
        int[][] due = {{0, 0, 60, 1}, {5, 4, 0, 1}, {2, 3, 1, 1}, {2, -1, 99, 1}, {2, -1, -99, 1}, {6, 0, 1, -1}, {-1, 0, 1, -1},
            {0, 5, 1, -2}, {0, -2, 1, -2}, {0, 0, 61, -2}, {0, 0, -1, -14}, {6, 5, -1, -1}, {0, 5, -1, -2}};
        for (int[] row : due) {
            check.due("tape(" + row[0] + ", " + row[1] + ", " + row[2] + ")", x.tape(row[0], row[1], row[2]), row[3]);
        }
        check.due("the last of 60", x.read(0, 59), 0);
        check.due("none of 0", x.read(5, 0), NO);
        check.due("a row of 0 is there", x.item(5, 0, 0), -13);
        check.due("nothing", x.item(2, 0, 0), -11);
        x.item(0, 7, 1);
        x.tape(0, 0, 60);
        check.due("all 0", x.read(0, 7), 0);
    }

    private void item() {
        doc.says("`int item(int tape, int i, long v)`: Item i of a TAPE becomes v (its lowest bits, as many as an item has; booleans: "
            + "whether v is not 0): 1. NONE; NOTHING; PLACE.");
        RepairGroups x = new RepairGroups();
        long[][] due = {{128, -128, 128, 128, 128, 1}, {65535, -1, -1, 65535, 65535, 1}, {4294967296L, 0, 0, 0, 4294967296L, 1},
            {-129, 127, -129, -129, -129, 1}, {0, 0, 0, 0, 0, 0}};
        for (int sort = 0; sort <= 4; sort++) {
            x.tape(sort, sort, 3);
            for (long[] row : due) {
                check.due("item", x.item(sort, 2, row[0]), 1);
                check.due(row[0] + " of sort " + sort, x.read(sort, 2), row[sort + 1]);
            }
        }
        check.due("tape 6", x.item(6, 0, 1), -1);
        check.due("tape 5", x.item(5, 0, 1), -11);
        check.due("place 3", x.item(0, 3, 1), -13);
        check.due("place -1", x.item(0, -1, 1), -13);
    }

    private void read() {
        doc.says("`long read(int tape, int i)`: Item i of a TAPE. NO: no such TAPE, nothing there, no such place.");
        RepairGroups x = new RepairGroups();
        x.tape(3, 3, 2);
        x.item(3, 0, -7);
        x.item(3, 1, 9876543210L);
        check.due("item 0", x.read(3, 0), -7);
        check.due("item 1", x.read(3, 1), 9876543210L);
        int[][] none = {{6, 0}, {-1, 0}, {0, 0}, {3, 2}, {3, -1}};
        for (int[] row : none) {
            check.due("read(" + row[0] + ", " + row[1] + ")", x.read(row[0], row[1]), NO);
        }
    }

    private void shift() {
        doc.says("`int shift(int tape, int i, int other, int j, int n)`: n items of a TAPE from i on come to another one (or the same) "
            + "from j on, as they all were before: n. NONE: tapes; NOTHING; CAST: of unlike sorts; PLACE: n, i or j is below 0, or "
            + "beyond either's end.");
        RepairGroups x = new RepairGroups();
        x.tape(0, 2, 5);
        x.tape(1, 2, 3);
        x.tape(2, 3, 3);
        for (int i = 0; i < 5; i++) {
            x.item(0, i, i + 1);
        }
        check.due("to another", x.shift(0, 2, 1, 1, 2), 2);
        items(x, 1, 0, 3, 4);
        check.due("to the same, higher", x.shift(0, 0, 0, 1, 4), 4);
        items(x, 0, 1, 1, 2, 3, 4);
        check.due("to the same, lower", x.shift(0, 2, 0, 0, 3), 3);
        items(x, 0, 2, 3, 4, 3, 4);
        check.due("none, at the ends", x.shift(0, 5, 1, 3, 0), 0);
        int[][] due = {{6, 0, 0, 0, 0, -1}, {0, 0, -1, 0, 0, -1}, {3, 0, 0, 0, 0, -11}, {0, 0, 3, 0, 0, -11}, {0, 0, 2, 0, 0, -12},
            {0, -1, 1, 0, 1, -13}, {0, 0, 1, -1, 1, -13}, {0, 0, 1, 0, -1, -13}, {0, 4, 1, 0, 2, -13}, {0, 0, 1, 2, 2, -13},
            {0, 6, 1, 0, 0, -13}};
        for (int[] row : due) {
            check.due("shift(" + row[0] + ", " + row[1] + ", " + row[2] + ", " + row[3] + ", " + row[4] + ")",
                x.shift(row[0], row[1], row[2], row[3], row[4]), row[5]);
        }
        items(x, 0, 2, 3, 4, 3, 4);
        items(x, 1, 0, 3, 4);
    }

    private void items(RepairGroups x, int tape, int... want) {
        for (int i = 0; i < want.length; i++) {
            check.due("item " + i, x.read(tape, i), want[i]);
        }
    }
}
