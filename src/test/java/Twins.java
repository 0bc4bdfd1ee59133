import java.util.ArrayList;
import java.util.List;

/**
 * Two objects that are made by the same calls. One more call is made on one of them; then both are asked
 * for all that is to be known of them, and what the call changed shows where their answers differ.
 */
final class Twins {
    /** Calls that make a state. */
    interface Calls {
        void on(RepairGroups x);
    }

    /** One call. */
    interface Call {
        long on(RepairGroups x);
    }

    /** Nothing has come. */
    static final Calls EMPTY = x -> { };
    static final Calls RICH = Twins::rich;
    static final Calls FULL = Twins::full;
    static final Calls[] ALL = {EMPTY, RICH, FULL};

    private Twins() {
    }

    /**
     * Nodes 0 (DATA 0, TOLD), 1 (DATA 1, BUSY), 2 (PARITY, DEEP), 3 (DATA 2, CACHED; MISSING), 4 (PARITY, TOLD);
     * three rows of each that is told by hand; THE IMAGE of the first four; THE TEXT x0+2*x1; a TAPE of each sort, 5 nothing.
     */
    private static void rich(RepairGroups x) {
        for (int sort = 0; sort <= 4; sort++) {
            x.tape(sort, sort, 4);
            x.item(sort, 1, 3);
            x.item(sort, 2, -1);
        }
        x.data(6, 3);
        x.data(3, 4);
        Check.parity(x, 5, 2, "x0+3*x1+x4");
        x.data(4, 7);
        x.write(0, 5);
        x.write(1, 9);
        x.write(2, 12);
        x.row(0, 0, 4);
        x.row(0, 1, 7);
        x.row(0, 3, 9);
        x.see(0, 5);
        x.see(2, 3);
        x.plan(0, 1);
        x.plan(1, 1);
        x.book(0, 6);
        x.book(3, 12);
        x.image();
        Check.parity(x, 6, 1, "x0+x1+x2");
        x.row(4, 2, 5);
        x.lose(1);
        x.repair(1);
        x.plan(2, 0);
        x.see(3, 7);
        x.book(1, 8);
        x.write(0, 6);
        x.lose(3);
        Check.feed(x, "x0+2*x1");
    }

    /** All that there can be: NODES, SEEN, the PLAN, the BOOK, THE TEXT (100 signs), a TAPE of 60. */
    private static void full(RepairGroups x) {
        for (int d = 0; d < 5; d++) {
            x.data(d, d);
        }
        for (int d = 0; d < 5; d++) {
            Check.parity(x, 6 - d, 9 - d, "x" + d);
        }
        x.image();
        for (int d = 0; d < 5; d++) {
            x.write(d, 3 * d + 1);
            x.see(d, 3 * d + 1);
        }
        for (int n = 0; n < 10; n++) {
            x.plan(n % 3, n);
        }
        for (int n = 0; n < 8; n++) {
            x.book(n, n < 5 ? 3 * n + 1 : 0);
        }
        x.lose(9);
        Check.feed(x, hundred());
        x.tape(0, 0, 60);
        x.item(0, 59, 7);
        x.tape(5, 0, 60);
    }

    /** A text of 100 signs: x0, and x1 even times. */
    static String hundred() {
        StringBuilder text = new StringBuilder("(x0)");
        while (text.length() < 100) {
            text.append("+x1");
        }
        return text.toString();
    }

    /** A call that is refused, or that asks: its answer, and nothing is changed by it. */
    static void unchanged(Check check, Calls made, String call, Call it, long want) {
        RepairGroups x = made(made);
        check.due(call, it.on(x), want);
        List<String> with = face(x);
        List<String> without = face(made(made));
        check.due(call + ": how much is told then", with.size(), without.size());
        for (int i = 0; i < with.size() && i < without.size(); i++) {
            check.yes(call + ": then " + with.get(i) + ", without it " + without.get(i), with.get(i).equals(without.get(i)));
        }
    }

    /** Whether what is told differs by a call. */
    static boolean differs(Calls made, Call it) {
        RepairGroups x = made(made);
        it.on(x);
        return !face(x).equals(face(made(made)));
    }

    private static RepairGroups made(Calls made) {
        RepairGroups x = new RepairGroups();
        made.on(x);
        return x;
    }

    /** All that is to be known, in some 320 calls; last come those that change something, for what no other tells. */
    private static List<String> face(RepairGroups x) {
        List<String> told = new ArrayList<>();
        facts(x, told);
        tapes(x, told);
        for (int node = 0; node < x.count(0); node++) {
            for (int part = 0; part < 4; part++) {
                add(told, "row(" + node + ", " + part + ", 0)", x.row(node, part, 0));
            }
        }
        for (int d = 0; d < x.count(1); d++) {
            add(told, "write(" + d + ", 1)", x.write(d, 1));
        }
        add(told, "looked()", x.looked());
        text(x, told);
        image(x, told);
        return told;
    }

    private static void add(List<String> told, String call, long answer) {
        told.add(call + " = " + answer);
    }

    private static void facts(RepairGroups x, List<String> told) {
        for (int what = 0; what <= 6; what++) {
            add(told, "told(" + what + ")", x.told(what));
        }
        for (int what = 0; what <= 5; what++) {
            add(told, "count(" + what + ")", x.count(what));
        }
        for (int node = 0; node < x.count(0); node++) {
            for (int what = 0; what <= 8; what++) {
                add(told, "of(" + node + ", " + what + ")", x.of(node, what));
            }
            for (int d = 0; d < 5 && x.of(node, 2) == -5; d++) {
                add(told, "of(" + node + ", " + (10 + d) + ")", x.of(node, 10 + d));
            }
            add(told, "can(" + node + ")", x.can(node));
        }
        for (int what = 0; what <= 1; what++) {
            add(told, "ways(" + what + ")", x.ways(what));
            add(told, "ends(" + what + ")", x.ends(what));
            add(told, "mean(" + what + ")", x.mean(what));
        }
        add(told, "looked()", x.looked());
        add(told, "safe(2)", x.safe(2));
    }

    private static void tapes(RepairGroups x, List<String> told) {
        for (int tape = 0; tape <= 5; tape++) {
            boolean isThere = true;
            for (int i = 0; i <= 60 && isThere; i++) {
                long item = x.read(tape, i);
                add(told, "read(" + tape + ", " + i + ")", item);
                isThere = item != Long.MIN_VALUE && tape < 5;
            }
            add(told, "judge(" + tape + ", 1)", x.judge(tape, 1));
            add(told, "item(" + tape + ", 0, of all sorts of bits)", x.item(tape, 0, 0x7654321080008080L));
            add(told, "read(" + tape + ", 0) then", x.read(tape, 0));
        }
    }

    /** A PARITY comes by THE TEXT, if there aren't five. */
    private static void text(RepairGroups x, List<String> told) {
        int node = x.parity(0, 0);
        add(told, "parity(0, 0)", node);
        for (int d = 0; d < 5; d++) {
            add(told, "number for " + d, x.of(node, 10 + d));
        }
    }

    private static void image(RepairGroups x, List<String> told) {
        add(told, "undo()", x.undo());
        for (int what = 0; what <= 5; what++) {
            add(told, "count(" + what + ") of THE IMAGE", x.count(what));
        }
        add(told, "told(2) of THE IMAGE", x.told(2));
        add(told, "ways(1) of THE IMAGE", x.ways(1));
        add(told, "ends(1) of THE IMAGE", x.ends(1));
        add(told, "looked() of THE IMAGE", x.looked());
        for (int node = 0; node < x.count(0); node++) {
            add(told, "of(" + node + ", 4) of THE IMAGE", x.of(node, 4));
            add(told, "of(" + node + ", 5) of THE IMAGE", x.of(node, 5));
        }
    }
}
