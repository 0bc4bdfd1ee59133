/** Promises 25 and 30 to 33 at their edges: a test for each sentence. */
public final class EdgeTapeTest {
    private static final Check CHECK = new Check("EdgeTapeTest");
    private static final long NO = Long.MIN_VALUE;
    private static final int MAX = Integer.MAX_VALUE, MIN = Integer.MIN_VALUE;

    public static void main(String[] args) {
        nothingAtFirst();
        tapeNone();
        tapeBadSort();
        tapeBadSize();
        tapeSize();
        tapeFirstOfTwo();
        tapeOfNone();
        tapeAllZero();
        tapeNothing();
        itemNone();
        itemNothing();
        itemPlace();
        itemFirstOfTwo();
        bytes();
        shorts();
        ints();
        longs();
        booleans();
        readNo();
        shiftNone();
        shiftNothing();
        shiftCast();
        shiftPlace();
        shiftSumsBeyondInt();
        shiftFirstOfTwo();
        shiftOfNone();
        shiftAll();
        shiftAsTheyWere();
        shiftEachSort();
        judgeNone();
        judgeCast();
        judgeFirstOfTwo();
        judgeNoNodes();
        judgeNothing();
        judgePlaceBelow();
        judgeEnds();
        judgeFarBeyond();
        judgeFirst();
        judgeMissing();
        judgeTen();
        CHECK.end();
    }

    private static void no(Twins.Calls made, String call, Twins.Call it, long want) {
        Twins.unchanged(CHECK, made, call, it, want);
    }

    private static void reads(RepairGroups x, int tape, long... want) {
        for (int i = 0; i < want.length; i++) {
            CHECK.due("read(" + tape + ", " + i + ")", x.read(tape, i), want[i]);
        }
        CHECK.due("read(" + tape + ", " + want.length + "), behind its end", x.read(tape, want.length), NO);
    }

    /** A TAPE of a sort with items 1, 2, 3, .. */
    private static RepairGroups counted(int tape, int sort, int n) {
        RepairGroups x = new RepairGroups();
        x.tape(tape, sort, n);
        for (int i = 0; i < n; i++) {
            x.item(tape, i, i + 1);
        }
        return x;
    }

    // ---- tape

    private static void nothingAtFirst() {
        CHECK.sentence("TAPES 0 .. 5 hold nothing (at first)");
        for (int tape = 0; tape <= 5; tape++) {
            int told = tape;
            no(Twins.EMPTY, "item(" + tape + ", 0, 0)", x -> x.item(told, 0, 0), -11);
            no(Twins.EMPTY, "read(" + tape + ", 0)", x -> x.read(told, 0), NO);
            no(Twins.EMPTY, "shift(" + tape + ", 0, 0, 0, 0)", x -> x.shift(told, 0, 0, 0, 0), -11);
        }
    }

    private static void tapeNone() {
        CHECK.sentence("p30 NONE: tape");
        for (int tape : Check.outside(0, 5)) {
            for (Twins.Calls made : Twins.ALL) {
                no(made, "tape(" + tape + ", 0, 1)", x -> x.tape(tape, 0, 1), -1);
                no(made, "tape(" + tape + ", -1, 1)", x -> x.tape(tape, -1, 1), -1);
            }
        }
        RepairGroups x = new RepairGroups();
        CHECK.due("the least: tape(0, 0, 1)", x.tape(0, 0, 1), 1);
        CHECK.due("the greatest: tape(5, 0, 1)", x.tape(5, 0, 1), 1);
    }

    private static void tapeBadSort() {
        CHECK.sentence("p30 BAD: sort");
        int[] sorts = {-2, 5, 6, -3, 255, 256, 260, -257, MIN, MIN + 4, MAX};
        for (int sort : sorts) {
            for (Twins.Calls made : Twins.ALL) {
                no(made, "tape(0, " + sort + ", 1)", x -> x.tape(0, sort, 1), -2);
            }
        }
        RepairGroups x = new RepairGroups();
        CHECK.due("the least: tape(0, 0, 1)", x.tape(0, 0, 1), 1);
        CHECK.due("the greatest: tape(0, 4, 1)", x.tape(0, 4, 1), 1);
    }

    private static void tapeBadSize() {
        CHECK.sentence("a row of n (0 .. 60) .. p30 n above 60");
        int[] sizes = {61, 62, 100, 255, 256, 65536, MAX - 1, MAX};
        for (int sort = 0; sort <= 4; sort++) {
            int told = sort;
            for (int n : sizes) {
                no(Twins.RICH, "tape(0, " + sort + ", " + n + ")", x -> x.tape(0, told, n), -2);
            }
            RepairGroups x = new RepairGroups();
            CHECK.due("the greatest: tape(0, " + sort + ", 60)", x.tape(0, sort, 60), 1);
            CHECK.due("its last", x.item(0, 59, 1), 1);
            CHECK.due("behind its last", x.item(0, 60, 1), -13);
        }
    }

    private static void tapeSize() {
        CHECK.sentence("SIZE (-14): a size below 0 .. p30 SIZE");
        int[] sizes = {-1, -2, -60, -61, -256, MIN, MIN + 1, MIN + 60};
        for (int sort = 0; sort <= 4; sort++) {
            int told = sort;
            for (int n : sizes) {
                no(Twins.RICH, "tape(0, " + sort + ", " + n + ")", x -> x.tape(0, told, n), -14);
                no(Twins.EMPTY, "tape(5, " + sort + ", " + n + ")", x -> x.tape(5, told, n), -14);
            }
        }
    }

    private static void tapeFirstOfTwo() {
        CHECK.sentence("p30 NONE .. BAD .. SIZE: the first that a call's words name");
        no(Twins.RICH, "tape ahead of sort", x -> x.tape(6, 5, 1), -1);
        no(Twins.RICH, "tape ahead of n", x -> x.tape(6, 0, 61), -1);
        no(Twins.RICH, "tape ahead of SIZE", x -> x.tape(-1, 0, -1), -1);
        no(Twins.RICH, "tape ahead of all", x -> x.tape(-1, -2, -1), -1);
        no(Twins.RICH, "sort ahead of SIZE", x -> x.tape(0, 5, -1), -2);
        no(Twins.RICH, "sort below ahead of SIZE", x -> x.tape(0, -2, MIN), -2);
        no(Twins.RICH, "sort and n", x -> x.tape(0, -2, 61), -2);
    }

    private static void tapeOfNone() {
        CHECK.sentence("a row of n (0 .. 60): of none");
        for (int sort = 0; sort <= 4; sort++) {
            RepairGroups x = new RepairGroups();
            CHECK.due("tape(0, " + sort + ", 0)", x.tape(0, sort, 0), 1);
            CHECK.due("item(0, 0, 1): a place, not nothing", x.item(0, 0, 1), -13);
            CHECK.due("read(0, 0)", x.read(0, 0), NO);
            CHECK.due("shift of none", x.shift(0, 0, 0, 0, 0), 0);
            CHECK.due("shift of one", x.shift(0, 0, 0, 0, 1), -13);
            CHECK.due("shift at 1", x.shift(0, 1, 0, 0, 0), -13);
        }
    }

    private static void tapeAllZero() {
        CHECK.sentence("p30 A TAPE becomes a row of n (0 .. 60) of a sort, all 0");
        for (int sort = 0; sort <= 4; sort++) {
            RepairGroups x = counted(3, sort, 60);
            CHECK.due("as it is", x.read(3, 59), sort == 4 ? 1 : 60);
            CHECK.due("anew", x.tape(3, sort, 60), 1);
            for (int i = 0; i < 60; i++) {
                CHECK.due("item " + i + " anew", x.read(3, i), 0);
            }
            x.item(3, 40, 1);
            CHECK.due("shorter", x.tape(3, sort, 2), 1);
            CHECK.due("longer again", x.tape(3, (sort + 1) % 5, 60), 1);
            CHECK.due("nothing is left there", x.read(3, 40), 0);
        }
    }

    private static void tapeNothing() {
        CHECK.sentence("p30 or holds nothing (sort -1: n does not matter)");
        int[] sizes = {MIN, -1, 0, 1, 60, 61, MAX};
        for (int n : sizes) {
            RepairGroups x = counted(2, 0, 3);
            CHECK.due("tape(2, -1, " + n + ")", x.tape(2, -1, n), 1);
            CHECK.due("item(2, 0, 0)", x.item(2, 0, 0), -11);
            CHECK.due("read(2, 0)", x.read(2, 0), NO);
            CHECK.due("tape(2, -1, " + n + ") again", x.tape(2, -1, n), 1);
            CHECK.due("tape(2, 0, 3)", x.tape(2, 0, 3), 1);
            reads(x, 2, 0, 0, 0);
        }
    }

    // ---- item, read

    private static void itemNone() {
        CHECK.sentence("p31 NONE");
        for (int tape : Check.outside(0, 5)) {
            for (Twins.Calls made : Twins.ALL) {
                no(made, "item(" + tape + ", 0, 1)", x -> x.item(tape, 0, 1), -1);
            }
        }
    }

    private static void itemNothing() {
        CHECK.sentence("p31 NOTHING");
        for (int tape = 0; tape <= 5; tape++) {
            int told = tape;
            no(Twins.EMPTY, "item(" + tape + ", 0, 1)", x -> x.item(told, 0, 1), -11);
        }
        no(Twins.RICH, "item(5, 0, 1)", x -> x.item(5, 0, 1), -11);
    }

    private static void itemPlace() {
        CHECK.sentence("PLACE (-13): no such place .. p31 PLACE");
        for (int t = 0; t <= 4; t++) {
            int tape = t;
            for (int i : Check.outside(0, 3)) {
                no(Twins.RICH, "item(" + tape + ", " + i + ", 1)", x -> x.item(tape, i, 1), -13);
            }
            RepairGroups x = new RepairGroups();
            Twins.RICH.on(x);
            CHECK.due("the first", x.item(tape, 0, 1), 1);
            CHECK.due("the last", x.item(tape, 3, 1), 1);
            reads(x, tape, 1, tape == 4 ? 1 : 3, tape == 4 ? 1 : -1, 1);
        }
        for (int i : Check.outside(0, 59)) {
            no(Twins.FULL, "item(0, " + i + ", 1)", x -> x.item(0, i, 1), -13);
        }
    }

    private static void itemFirstOfTwo() {
        CHECK.sentence("p31 NONE; NOTHING; PLACE: the first that a call's words name");
        no(Twins.RICH, "tape ahead of the place", x -> x.item(6, 4, 1), -1);
        no(Twins.RICH, "tape below ahead of the place", x -> x.item(-1, -1, 1), -1);
        no(Twins.RICH, "nothing ahead of the place", x -> x.item(5, 4, 1), -11);
        no(Twins.EMPTY, "nothing ahead of the place below", x -> x.item(0, -1, 1), -11);
    }

    private static void cut(int sort, long v, long want) {
        RepairGroups x = new RepairGroups();
        x.tape(1, sort, 3);
        CHECK.due("item(1, 1, " + v + ") of sort " + sort, x.item(1, 1, v), 1);
        reads(x, 1, 0, want, 0);
    }

    private static void bytes() {
        CHECK.sentence("p31 v (its lowest bits, as many as an item has), bytes");
        long[] v = {127, 128, 129, 255, 256, 257, 383, 384, -128, -129, -256, -257, Long.MAX_VALUE, Long.MIN_VALUE, 1L << 32, 1L << 63 | 200};
        long[] want = {127, -128, -127, -1, 0, 1, 127, -128, -128, 127, 0, -1, -1, 0, 0, -56};
        for (int i = 0; i < v.length; i++) {
            cut(0, v[i], want[i]);
        }
    }

    private static void shorts() {
        CHECK.sentence("p31 v (its lowest bits, as many as an item has), shorts");
        long[] v = {128, 255, 32767, 32768, 65535, 65536, 65537, -32768, -32769, -65536, -65537, Long.MAX_VALUE, Long.MIN_VALUE, 1L << 32};
        long[] want = {128, 255, 32767, -32768, -1, 0, 1, -32768, 32767, 0, -1, -1, 0, 0};
        for (int i = 0; i < v.length; i++) {
            cut(1, v[i], want[i]);
        }
    }

    private static void ints() {
        CHECK.sentence("p31 v (its lowest bits, as many as an item has), ints");
        long[] v = {255, 65536, 2147483647L, 2147483648L, 4294967295L, 4294967296L, 4294967297L,
            -2147483648L, -2147483649L, -4294967296L, -4294967297L, Long.MAX_VALUE, Long.MIN_VALUE};
        long[] want = {255, 65536, 2147483647L, -2147483648L, -1, 0, 1, -2147483648L, 2147483647L, 0, -1, -1, 0};
        for (int i = 0; i < v.length; i++) {
            cut(2, v[i], want[i]);
        }
    }

    private static void longs() {
        CHECK.sentence("p31 v (its lowest bits, as many as an item has), longs");
        long[] v = {0, -1, 2147483648L, -2147483649L, 1L << 32, Long.MAX_VALUE, Long.MIN_VALUE, Long.MIN_VALUE + 1};
        for (long whole : v) {
            cut(3, whole, whole);
        }
    }

    private static void booleans() {
        CHECK.sentence("4 booleans (items 0, 1) .. p31 booleans: whether v is not 0");
        long[] v = {0, 1, 2, -1, 256, 65536, 1L << 32, 1L << 40, Long.MAX_VALUE, Long.MIN_VALUE};
        for (long whole : v) {
            cut(4, whole, whole == 0 ? 0 : 1);
        }
        RepairGroups x = new RepairGroups();
        x.tape(0, 4, 1);
        x.item(0, 0, 7);
        CHECK.due("item(0, 0, 0) again", x.item(0, 0, 0), 1);
        CHECK.due("read(0, 0)", x.read(0, 0), 0);
    }

    private static void readNo() {
        CHECK.sentence("p32 NO: no such TAPE, nothing there, no such place.");
        for (int tape : Check.outside(0, 5)) {
            for (Twins.Calls made : Twins.ALL) {
                no(made, "read(" + tape + ", 0)", x -> x.read(tape, 0), NO);
            }
        }
        no(Twins.RICH, "read(5, 0)", x -> x.read(5, 0), NO);
        for (int t = 0; t <= 4; t++) {
            int tape = t;
            for (int i : Check.outside(0, 3)) {
                no(Twins.RICH, "read(" + tape + ", " + i + ")", x -> x.read(tape, i), NO);
            }
            no(Twins.RICH, "the first: read(" + tape + ", 0)", x -> x.read(tape, 0), 0);
            no(Twins.RICH, "the last: read(" + tape + ", 3)", x -> x.read(tape, 3), 0);
        }
        for (int i : Check.outside(0, 59)) {
            no(Twins.FULL, "read(0, " + i + ")", x -> x.read(0, i), NO);
        }
        no(Twins.FULL, "the last: read(0, 59)", x -> x.read(0, 59), 7);
    }

    // ---- shift

    private static void shiftNone() {
        CHECK.sentence("p33 NONE: tapes");
        for (int tape : Check.outside(0, 5)) {
            for (Twins.Calls made : Twins.ALL) {
                no(made, "shift(" + tape + ", 0, 0, 0, 0)", x -> x.shift(tape, 0, 0, 0, 0), -1);
                no(made, "shift(0, 0, " + tape + ", 0, 0)", x -> x.shift(0, 0, tape, 0, 0), -1);
                no(made, "shift(" + tape + ", 0, " + tape + ", 0, 1)", x -> x.shift(tape, 0, tape, 0, 1), -1);
            }
        }
    }

    private static void shiftNothing() {
        CHECK.sentence("p33 NOTHING");
        no(Twins.RICH, "from", x -> x.shift(5, 0, 0, 0, 0), -11);
        no(Twins.RICH, "to", x -> x.shift(0, 0, 5, 0, 0), -11);
        no(Twins.RICH, "both", x -> x.shift(5, 0, 5, 0, 0), -11);
        no(Twins.EMPTY, "all", x -> x.shift(0, 0, 1, 0, 0), -11);
    }

    private static void shiftCast() {
        CHECK.sentence("p33 CAST: of unlike sorts");
        for (int from = 0; from <= 4; from++) {
            for (int to = 0; to <= 4; to++) {
                int tape = from;
                int other = to;
                if (from != to) {
                    no(Twins.RICH, "shift(" + from + ", 0, " + to + ", 0, 1)", x -> x.shift(tape, 0, other, 0, 1), -12);
                    no(Twins.RICH, "shift(" + from + ", 0, " + to + ", 0, 0)", x -> x.shift(tape, 0, other, 0, 0), -12);
                }
            }
        }
    }

    /** Four from, three to: all places at the first that isn't, on both sides. */
    private static void shiftPlace() {
        CHECK.sentence("p33 PLACE: n, i or j is below 0, or beyond either's end");
        Twins.Calls made = x -> {
            Twins.RICH.on(x);
            x.tape(5, 2, 3);
        };
        no(made, "n below", x -> x.shift(2, 0, 5, 0, -1), -13);
        no(made, "n below, all else beyond", x -> x.shift(2, 4, 5, 3, -1), -13);
        no(made, "i below", x -> x.shift(2, -1, 5, 0, 1), -13);
        no(made, "i below, none", x -> x.shift(2, -1, 5, 0, 0), -13);
        no(made, "j below", x -> x.shift(2, 0, 5, -1, 1), -13);
        no(made, "j below, none", x -> x.shift(2, 0, 5, -1, 0), -13);
        no(made, "i and n beyond", x -> x.shift(2, 2, 5, 0, 3), -13);
        no(made, "i alone beyond, none", x -> x.shift(2, 5, 5, 0, 0), -13);
        no(made, "i at the end, one", x -> x.shift(2, 4, 5, 0, 1), -13);
        no(made, "j and n beyond", x -> x.shift(2, 0, 5, 1, 3), -13);
        no(made, "j alone beyond, none", x -> x.shift(2, 0, 5, 4, 0), -13);
        no(made, "j at the end, one", x -> x.shift(2, 0, 5, 3, 1), -13);
        no(made, "n beyond the other's end", x -> x.shift(2, 0, 5, 0, 4), -13);
        no(made, "n beyond the one's end", x -> x.shift(5, 0, 2, 0, 4), -13);
        no(made, "n beyond both", x -> x.shift(2, 0, 2, 0, 5), -13);
        no(made, "the same, onto beyond its end", x -> x.shift(2, 0, 2, 1, 4), -13);
        RepairGroups x = new RepairGroups();
        made.on(x);
        CHECK.due("all three", x.shift(2, 1, 5, 0, 3), 3);
        reads(x, 5, 3, -1, 0);
        CHECK.due("all three back", x.shift(5, 0, 2, 0, 3), 3);
        reads(x, 2, 3, -1, 0, 0);
        CHECK.due("the last one", x.shift(2, 3, 5, 2, 1), 1);
    }

    private static void shiftSumsBeyondInt() {
        CHECK.sentence("p33 places and numbers whose sum is no int");
        int[] great = {MAX, MAX - 1, MAX - 2, MAX - 3, MAX - 4, 1 << 30};
        for (int much : great) {
            no(Twins.RICH, "i " + much, x -> x.shift(0, much, 0, 0, 1), -13);
            no(Twins.RICH, "i " + much + ", n 4", x -> x.shift(0, much, 0, 0, 4), -13);
            no(Twins.RICH, "j " + much, x -> x.shift(0, 0, 0, much, 1), -13);
            no(Twins.RICH, "j " + much + ", n 4", x -> x.shift(0, 0, 0, much, 4), -13);
            no(Twins.RICH, "n " + much, x -> x.shift(0, 0, 0, 0, much), -13);
            no(Twins.RICH, "n " + much + ", i 2", x -> x.shift(0, 2, 0, 0, much), -13);
            no(Twins.RICH, "n " + much + ", i 2, j 3", x -> x.shift(0, 2, 0, 3, much), -13);
            no(Twins.RICH, "i, n " + much, x -> x.shift(0, much, 0, 0, much), -13);
            no(Twins.RICH, "all " + much, x -> x.shift(0, much, 0, much, much), -13);
        }
        int[] little = {MIN, MIN + 1, MIN + 4, -4};
        for (int least : little) {
            no(Twins.RICH, "i " + least, x -> x.shift(0, least, 0, 0, 1), -13);
            no(Twins.RICH, "j " + least, x -> x.shift(0, 0, 0, least, 1), -13);
            no(Twins.RICH, "n " + least, x -> x.shift(0, 0, 0, 0, least), -13);
            no(Twins.RICH, "i, n " + least, x -> x.shift(0, least, 0, 0, least), -13);
            no(Twins.RICH, "i " + least + ", n most", x -> x.shift(0, least, 0, 0, MAX), -13);
            no(Twins.RICH, "i most, n " + least, x -> x.shift(0, MAX, 0, 0, least), -13);
            no(Twins.RICH, "all " + least, x -> x.shift(0, least, 0, least, least), -13);
        }
    }

    private static void shiftFirstOfTwo() {
        CHECK.sentence("p33 NONE; NOTHING; CAST; PLACE: the first that a call's words name");
        no(Twins.RICH, "tape ahead of nothing", x -> x.shift(6, 0, 5, 0, 0), -1);
        no(Twins.RICH, "the other ahead of nothing", x -> x.shift(5, 0, 6, 0, 0), -1);
        no(Twins.RICH, "the other ahead of the place", x -> x.shift(0, -1, -1, 0, 0), -1);
        no(Twins.RICH, "nothing ahead of sorts and the place", x -> x.shift(5, -1, 0, 0, 1), -11);
        no(Twins.RICH, "nothing to ahead of sorts and the place", x -> x.shift(1, 0, 5, 9, 1), -11);
        no(Twins.RICH, "sorts ahead of n", x -> x.shift(0, 0, 1, 0, -1), -12);
        no(Twins.RICH, "sorts ahead of i", x -> x.shift(0, 5, 1, 0, 1), -12);
        no(Twins.RICH, "sorts ahead of j", x -> x.shift(0, 0, 1, MAX, 1), -12);
    }

    private static void shiftOfNone() {
        CHECK.sentence("p33 n items: none, also at the ends");
        for (int i = 0; i <= 4; i++) {
            for (int j = 0; j <= 4; j++) {
                int from = i;
                int to = j;
                no(Twins.RICH, "shift(2, " + i + ", 2, " + j + ", 0)", x -> x.shift(2, from, 2, to, 0), 0);
            }
        }
    }

    private static void shiftAll() {
        CHECK.sentence("p33 n items: all 60");
        RepairGroups x = counted(0, 2, 60);
        x.tape(1, 2, 60);
        CHECK.due("shift(0, 0, 1, 0, 60)", x.shift(0, 0, 1, 0, 60), 60);
        for (int i = 0; i < 60; i++) {
            CHECK.due("read(1, " + i + ")", x.read(1, i), i + 1);
            CHECK.due("read(0, " + i + ")", x.read(0, i), i + 1);
        }
        CHECK.due("61", x.shift(0, 0, 1, 0, 61), -13);
        CHECK.due("the last to the first", x.shift(0, 59, 1, 0, 1), 1);
        CHECK.due("read(1, 0)", x.read(1, 0), 60);
    }

    private static void shiftAsTheyWere() {
        CHECK.sentence("p33 (or the same) from j on, as they all were before");
        for (int i = 0; i <= 5; i++) {
            for (int j = 0; j <= 5; j++) {
                for (int n = 0; i + n <= 5 && j + n <= 5; n++) {
                    RepairGroups x = counted(4, 3, 5);
                    long[] want = {1, 2, 3, 4, 5};
                    for (int k = 0; k < n; k++) {
                        want[j + k] = i + k + 1;
                    }
                    CHECK.due("shift(4, " + i + ", 4, " + j + ", " + n + ")", x.shift(4, i, 4, j, n), n);
                    reads(x, 4, want);
                }
            }
        }
    }

    private static void shiftEachSort() {
        CHECK.sentence("p33 items of each sort");
        for (int sort = 0; sort <= 4; sort++) {
            RepairGroups x = new RepairGroups();
            x.tape(0, sort, 2);
            x.tape(5, sort, 3);
            x.item(0, 0, -2);
            x.item(0, 1, 1);
            CHECK.due("shift(0, 0, 5, 1, 2)", x.shift(0, 0, 5, 1, 2), 2);
            reads(x, 5, 0, sort == 4 ? 1 : -2, 1);
            reads(x, 0, sort == 4 ? 1 : -2, 1);
        }
    }

    // ---- judge

    private static void judgeNone() {
        CHECK.sentence("p25 NONE: tape");
        for (int tape : Check.outside(0, 5)) {
            for (Twins.Calls made : Twins.ALL) {
                no(made, "judge(" + tape + ", 0)", x -> x.judge(tape, 0), -1);
            }
        }
    }

    private static void judgeCast() {
        CHECK.sentence("p25 CAST: it is no row of bytes.");
        for (int t = 1; t <= 4; t++) {
            int tape = t;
            for (int i = -1; i <= 5; i++) {
                int place = i;
                no(Twins.RICH, "judge(" + tape + ", " + i + ")", x -> x.judge(tape, place), -12);
            }
            no(x -> x.tape(2, tape, 0), "judge(2, 0), of sort " + tape + ", none in it, no NODES", x -> x.judge(2, 0), -12);
        }
    }

    private static void judgeFirstOfTwo() {
        CHECK.sentence("p25 NONE; CAST: the first that a call's words name");
        no(Twins.RICH, "tape ahead of the place", x -> x.judge(6, -1), -1);
        no(Twins.EMPTY, "tape ahead of no NODES", x -> x.judge(-1, 0), -1);
        no(Twins.RICH, "the sort ahead of the place", x -> x.judge(3, -1), -12);
        no(Twins.RICH, "the sort ahead of the place beyond", x -> x.judge(3, MAX), -12);
    }

    private static void judgeNoNodes() {
        CHECK.sentence("-5: none, or there are no NODES (wherever the place is, also if the TAPE holds nothing)");
        int[] places = {MIN, -1, 0, 1, 2, 3, 60, 61, MAX};
        for (int place : places) {
            no(Twins.EMPTY, "judge(0, " + place + "), it holds nothing", x -> x.judge(0, place), -5);
            no(x -> x.tape(0, 0, 2), "judge(0, " + place + "), bytes", x -> x.judge(0, place), -5);
            no(x -> x.tape(0, 0, 0), "judge(0, " + place + "), none in it", x -> x.judge(0, place), -5);
        }
    }

    private static RepairGroups zeros(int nodes, int n) {
        RepairGroups x = new RepairGroups();
        for (int d = 0; d < nodes; d++) {
            x.data(0, 0);
        }
        x.tape(0, 0, n);
        return x;
    }

    private static void judgeNothing() {
        CHECK.sentence("100 and how many were looked at .. (.. or the TAPE holds nothing)");
        int[] places = {MIN, -1, 0, 1, 60, MAX};
        for (int place : places) {
            no(Twins.RICH, "judge(5, " + place + ")", x -> x.judge(5, place), 100);
            no(Twins.FULL, "judge(4, " + place + ")", x -> x.judge(4, place), 100);
            CHECK.due("judge(0, " + place + "), none in it", zeros(1, 0).judge(0, place), 100);
        }
        RepairGroups x = zeros(1, 1);
        CHECK.due("a row", x.judge(0, 0), -5);
        x.tape(0, -1, 0);
        CHECK.due("nothing any more", x.judge(0, 0), 100);
    }

    private static void judgePlaceBelow() {
        CHECK.sentence("100 and how many were looked at .. (or the place is below 0");
        int[] places = {-1, -2, -60, MIN, MIN + 1};
        for (int place : places) {
            no(Twins.RICH, "judge(0, " + place + ")", x -> x.judge(0, place), 100);
            no(Twins.FULL, "judge(0, " + place + ")", x -> x.judge(0, place), 100);
        }
        CHECK.due("the first place", zeros(1, 1).judge(0, 0), -5);
    }

    private static void judgeEnds() {
        CHECK.sentence("100 and how many were looked at, if the row ends ahead of that");
        for (int nodes = 1; nodes <= 5; nodes++) {
            for (int n = 0; n <= 7; n++) {
                RepairGroups x = zeros(nodes, n);
                for (int i = 0; i <= 9; i++) {
                    int left = n - i < 0 ? 0 : n - i;
                    CHECK.due("judge(0, " + i + ") of " + n + " by " + nodes, x.judge(0, i), left >= nodes ? -5 : 100 + left);
                }
            }
        }
        RepairGroups x = zeros(3, 2);
        x.item(0, 1, 9);
        CHECK.due("otherwise ahead of the end", x.judge(0, 0), 1);
        CHECK.due("otherwise at the last", x.judge(0, 1), 0);
    }

    private static void judgeFarBeyond() {
        CHECK.sentence("p25 places whose sum with a NODE's number is no int");
        for (int back = 0; back <= 12; back++) {
            int place = MAX - back;
            no(Twins.RICH, "judge(0, " + place + ")", x -> x.judge(0, place), 100);
            no(Twins.FULL, "judge(0, " + place + ")", x -> x.judge(0, place), 100);
        }
    }

    private static void judgeFirst() {
        CHECK.sentence("the first that is otherwise (counted from 0 from that place on)");
        for (int at = 0; at < 5; at++) {
            for (int from = 0; from <= 3; from++) {
                RepairGroups x = zeros(5, 8);
                x.item(0, from + at, 1);
                CHECK.due("judge(0, " + from + ")", x.judge(0, from), at);
                x.item(0, from + 4, 1);
                CHECK.due("two are: judge(0, " + from + ")", x.judge(0, from), at);
            }
        }
        RepairGroups x = zeros(1, 3);
        x.item(0, 0, 1);
        x.item(0, 2, 1);
        CHECK.due("others don't count", x.judge(0, 1), -5);
    }

    private static void judgeMissing() {
        CHECK.sentence("a row of bytes (-1: MISSING)");
        RepairGroups x = zeros(1, 1);
        x.item(0, 0, -1);
        CHECK.due("-1, THERE", x.judge(0, 0), 0);
        x.lose(0);
        CHECK.due("-1, MISSING", x.judge(0, 0), -5);
        x.item(0, 0, 255);
        CHECK.due("255 is -1 as a byte", x.judge(0, 0), -5);
        for (int symbol = 0; symbol <= 16; symbol++) {
            x.item(0, 0, symbol);
            CHECK.due(symbol + ", MISSING", x.judge(0, 0), 0);
        }
        x.item(0, 0, -5);
        CHECK.due("-5, MISSING", x.judge(0, 0), 0);
        RepairGroups y = zeros(1, 1);
        for (int symbol = 0; symbol <= 15; symbol++) {
            y.write(0, symbol);
            y.item(0, 0, symbol);
            CHECK.due(symbol + ", THERE", y.judge(0, 0), -5);
            y.item(0, 0, symbol + 16);
            CHECK.due(symbol + " and 16, THERE", y.judge(0, 0), 0);
            y.item(0, 0, symbol + 256);
            CHECK.due(symbol + " and 256 as a byte", y.judge(0, 0), -5);
        }
    }

    private static void judgeTen() {
        CHECK.sentence("NODE by NODE: ten of them, at the end of 60");
        RepairGroups x = new RepairGroups();
        Twins.FULL.on(x);
        for (int node = 0; node <= 9; node++) {
            x.item(0, 50 + node, Math.max(-1, x.of(node, 5)));
        }
        CHECK.due("judge(0, 50)", x.judge(0, 50), -5);
        CHECK.due("judge(0, 51)", x.judge(0, 51), 0);
        x.item(0, 59, 0);
        CHECK.due("the last, MISSING", x.judge(0, 50), 9);
        x.tape(1, 0, 9);
        x.shift(0, 50, 1, 0, 9);
        CHECK.due("nine in the row", x.judge(1, 0), 109);
    }
}
