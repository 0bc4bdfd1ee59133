/** Twins see each change, and what is asked changes nothing: for every call of the face. */
public final class TwinsTest {
    private static final Check CHECK = new Check("TwinsTest");

    public static void main(String[] args) {
        changesAreSeen();
        fieldAsked();
        nodesAsked();
        tellingAsked();
        seenAsked();
        plansAsked();
        tapesAsked();
        CHECK.end();
    }

    private static void seen(Twins.Calls made, String call, Twins.Call it) {
        CHECK.yes(call + " is seen", Twins.differs(made, it));
    }

    private static void changesAreSeen() {
        CHECK.sentence("what changes something is seen");
        seen(Twins.EMPTY, "field(25)", x -> x.field(25));
        seen(Twins.EMPTY, "data(0, 0)", x -> x.data(0, 0));
        seen(Twins.EMPTY, "feed('x')", x -> x.feed('x'));
        seen(Twins.RICH, "data(0, 0)", x -> x.data(0, 0));
        seen(Twins.RICH, "feed('0')", x -> x.feed('0'));
        seen(Twins.RICH, "parity(0, 0)", x -> x.parity(0, 0));
        seen(Twins.RICH, "row(0, 2, 1)", x -> x.row(0, 2, 1));
        seen(Twins.RICH, "row(4, 3, 9)", x -> x.row(4, 3, 9));
        seen(Twins.RICH, "write(1, 8)", x -> x.write(1, 8));
        seen(Twins.RICH, "lose(2)", x -> x.lose(2));
        seen(Twins.RICH, "repair(3)", x -> x.repair(3));
        seen(Twins.RICH, "see(0, 5)", x -> x.see(0, 5));
        seen(Twins.RICH, "see(-1, 0)", x -> x.see(-1, 0));
        seen(Twins.RICH, "plan(2, 3)", x -> x.plan(2, 3));
        seen(Twins.RICH, "plan(-1, 0)", x -> x.plan(-1, 0));
        seen(Twins.RICH, "book(0, 6)", x -> x.book(0, 6));
        seen(Twins.RICH, "book(-1, 0)", x -> x.book(-1, 0));
        seen(Twins.RICH, "image()", x -> x.image());
        seen(Twins.RICH, "undo()", x -> x.undo());
        seen(Twins.RICH, "tape(2, 2, 5)", x -> x.tape(2, 2, 5));
        seen(Twins.RICH, "tape(1, 0, 4)", x -> x.tape(1, 0, 4));
        seen(Twins.RICH, "tape(5, 0, 0)", x -> x.tape(5, 0, 0));
        seen(Twins.RICH, "tape(0, -1, 0)", x -> x.tape(0, -1, 0));
        seen(Twins.RICH, "item(3, 3, 1)", x -> x.item(3, 3, 1));
        seen(Twins.RICH, "shift(1, 1, 1, 3, 1)", x -> x.shift(1, 1, 1, 3, 1));
        seen(Twins.FULL, "see(-1, 0)", x -> x.see(-1, 0));
        seen(Twins.FULL, "item(0, 58, 1)", x -> x.item(0, 58, 1));
        for (Twins.Calls made : Twins.ALL) {
            CHECK.yes("nothing is, if nothing is changed", !Twins.differs(made, x -> 0));
        }
    }

    /** The call answers the same twice, and changes nothing. */
    private static void asked(String call, Twins.Call it) {
        for (Twins.Calls made : Twins.ALL) {
            RepairGroups x = new RepairGroups();
            made.on(x);
            long answer = it.on(x);
            CHECK.due(call + " again", it.on(x), answer);
            Twins.unchanged(CHECK, made, call, it, answer);
        }
    }

    private static void fieldAsked() {
        CHECK.sentence("what is asked changes nothing: calc");
        for (int w = 0; w <= 5; w++) {
            int what = w;
            asked("calc(" + what + ", 14, 9)", x -> x.calc(what, 14, 9));
        }
    }

    private static void nodesAsked() {
        CHECK.sentence("what is asked changes nothing: of, taken, count");
        for (int w = 0; w <= 14; w++) {
            int what = w;
            for (int n = 0; n <= 9; n++) {
                int node = n;
                asked("of(" + node + ", " + what + ")", x -> x.of(node, what));
            }
        }
        for (int k = 0; k <= 6; k++) {
            int kind = k;
            asked("taken(0, " + kind + ")", x -> x.taken(0, kind));
            asked("count(" + kind + ")", x -> x.count(kind));
        }
    }

    private static void tellingAsked() {
        CHECK.sentence("what is asked changes nothing: told, rank, safe, best");
        for (int w = 0; w <= 10; w++) {
            int what = w;
            asked("told(" + what + ")", x -> x.told(what));
            asked("safe(" + what + ")", x -> x.safe(what));
            asked("rank(" + what + ")", x -> x.rank(what));
            asked("best(4, 1, " + what + ")", x -> x.best(4, 1, what));
            asked("best(9, 4, " + what + ")", x -> x.best(9, 4, what));
        }
        asked("rank(1023)", x -> x.rank(1023));
    }

    private static void seenAsked() {
        CHECK.sentence("what is asked changes nothing: ways, can, odds, mean");
        for (int p = 0; p <= 1; p++) {
            int part = p;
            asked("ways(" + part + ")", x -> x.ways(part));
            asked("mean(" + part + ")", x -> x.mean(part));
            for (int n = 0; n <= 10; n++) {
                int e = n;
                asked("odds(" + e + ", " + part + ")", x -> x.odds(e, part));
                asked("can(" + e + ")", x -> x.can(e));
            }
        }
    }

    private static void plansAsked() {
        CHECK.sentence("what is asked changes nothing: ends, looked");
        asked("ends(0)", x -> x.ends(0));
        asked("ends(1)", x -> x.ends(1));
        asked("looked()", x -> x.looked());
    }

    private static void tapesAsked() {
        CHECK.sentence("what is asked changes nothing: judge, read");
        for (int t = 0; t <= 5; t++) {
            int tape = t;
            for (int p = -1; p <= 4; p++) {
                int place = p;
                asked("judge(" + tape + ", " + place + ")", x -> x.judge(tape, place));
                asked("read(" + tape + ", " + place + ")", x -> x.read(tape, place));
            }
        }
    }
}
