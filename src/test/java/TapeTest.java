/** Promises 25 and 30 to 33: judge, tape, item, read, shift. */
public final class TapeTest {
    private static final Check CHECK = new Check("TapeTest");
    private static final long NO = Long.MIN_VALUE;
    private static final int MAX = Integer.MAX_VALUE, MIN = Integer.MIN_VALUE;

    public static void main(String[] args) {
        making();
        items();
        cuts();
        shifts();
        overlaps();
        shiftsRefused();
        judged();
        judgedShort();
        judgedRefused();
        CHECK.end();
    }

    private static void making() {
        RepairGroups x = new RepairGroups();
        CHECK.due("p30: tape -1", x.tape(-1, 9, 99), -1);
        CHECK.due("p30: tape 6", x.tape(6, -1, 0), -1);
        CHECK.due("p30: sort -2", x.tape(0, -2, -1), -2);
        CHECK.due("p30: sort 5", x.tape(0, 5, -1), -2);
        CHECK.due("p30: n 61", x.tape(0, 0, 61), -2);
        CHECK.due("p30: n -1", x.tape(0, 0, -1), -14);
        CHECK.due("p30: n least", x.tape(0, 0, MIN), -14);
        CHECK.due("p30: nothing came", x.item(0, 0, 0), -11);
        for (int sort = 0; sort <= 4; sort++) {
            CHECK.due("p30: 60 of sort " + sort, x.tape(sort, sort, 60), 1);
            CHECK.due("p32: the last", x.read(sort, 59), 0);
            CHECK.due("p32: behind it", x.read(sort, 60), NO);
        }
        x.item(2, 5, 8);
        CHECK.due("p30: anew", x.tape(2, 2, 60), 1);
        CHECK.due("p30: all 0", x.read(2, 5), 0);
        CHECK.due("p30: of none", x.tape(5, 0, 0), 1);
        CHECK.due("p31: no place in it", x.item(5, 0, 0), -13);
        CHECK.due("p30: nothing", x.tape(2, -1, MIN), 1);
        CHECK.due("p31: nothing in it", x.item(2, -1, 0), -11);
        CHECK.due("p32: nothing to read", x.read(2, 0), NO);
        CHECK.due("p30: nothing again", x.tape(2, -1, 99), 1);
    }

    private static void items() {
        RepairGroups x = new RepairGroups();
        x.tape(1, 3, 2);
        CHECK.due("p31: tape -1", x.item(-1, 0, 0), -1);
        CHECK.due("p31: tape 6", x.item(6, 0, 0), -1);
        CHECK.due("p31: nothing", x.item(0, 0, 0), -11);
        CHECK.due("p31: place -1", x.item(1, -1, 0), -13);
        CHECK.due("p31: place 2", x.item(1, 2, 0), -13);
        CHECK.due("p31: place", x.item(1, 1, -9), 1);
        CHECK.due("p32: read", x.read(1, 1), -9);
        CHECK.due("p32: its other one", x.read(1, 0), 0);
        CHECK.due("p32: place -1", x.read(1, -1), NO);
        CHECK.due("p32: place 2", x.read(1, 2), NO);
        CHECK.due("p32: tape -1", x.read(-1, 0), NO);
        CHECK.due("p32: tape 6", x.read(6, 0), NO);
    }

    private static void cuts() {
        RepairGroups x = new RepairGroups();
        for (int sort = 0; sort <= 4; sort++) {
            x.tape(sort, sort, 1);
        }
        long[] given = {0, 1, -1, 127, 128, -129, 32767, 32768, -32769, 65536, 256,
            2147483648L, -2147483649L, 4294967296L, Long.MAX_VALUE, Long.MIN_VALUE};
        for (long v : given) {
            long[] want = {(byte) v, (short) v, (int) v, v, v != 0 ? 1 : 0};
            for (int sort = 0; sort <= 4; sort++) {
                CHECK.due("p31: item of " + v, x.item(sort, 0, v), 1);
                CHECK.due("p32: " + v + " as sort " + sort, x.read(sort, 0), want[sort]);
            }
        }
        x.item(0, 0, 200);
        CHECK.due("p31: 200 in a byte", x.read(0, 0), -56);
        x.item(4, 0, 256);
        CHECK.due("p31: 256 in a boolean", x.read(4, 0), 1);
    }

    private static RepairGroups counted(int tape, int sort, int n) {
        RepairGroups x = new RepairGroups();
        x.tape(tape, sort, n);
        for (int i = 0; i < n; i++) {
            x.item(tape, i, i + 1);
        }
        return x;
    }

    private static void reads(RepairGroups x, int tape, int... want) {
        for (int i = 0; i < want.length; i++) {
            CHECK.due("p33: item " + i + " then", x.read(tape, i), want[i]);
        }
    }

    private static void shifts() {
        RepairGroups x = counted(0, 1, 4);
        x.tape(3, 1, 6);
        CHECK.due("p33: shift", x.shift(0, 1, 3, 2, 3), 3);
        reads(x, 3, 0, 0, 2, 3, 4, 0);
        reads(x, 0, 1, 2, 3, 4);
        CHECK.due("p33: none", x.shift(0, 4, 3, 6, 0), 0);
        CHECK.due("p33: all", x.shift(0, 0, 3, 0, 4), 4);
        reads(x, 3, 1, 2, 3, 4, 4, 0);
    }

    private static void overlaps() {
        RepairGroups x = counted(2, 3, 5);
        CHECK.due("p33: upwards", x.shift(2, 0, 2, 1, 4), 4);
        reads(x, 2, 1, 1, 2, 3, 4);
        RepairGroups y = counted(2, 3, 5);
        CHECK.due("p33: downwards", y.shift(2, 2, 2, 1, 3), 3);
        reads(y, 2, 1, 3, 4, 5, 5);
        CHECK.due("p33: in place", y.shift(2, 0, 2, 0, 5), 5);
        reads(y, 2, 1, 3, 4, 5, 5);
    }

    private static void shiftsRefused() {
        RepairGroups x = counted(0, 1, 4);
        x.tape(1, 2, 4);
        x.tape(2, 1, 3);
        CHECK.due("p33: tape -1", x.shift(-1, 0, 5, 0, 1), -1);
        CHECK.due("p33: other 6", x.shift(5, 0, 6, 0, 1), -1);
        CHECK.due("p33: nothing from", x.shift(5, 0, 1, 9, 1), -11);
        CHECK.due("p33: nothing to", x.shift(1, -1, 5, 0, 1), -11);
        CHECK.due("p33: unlike", x.shift(0, -1, 1, 0, 1), -12);
        CHECK.due("p33: n -1", x.shift(0, 0, 2, 0, -1), -13);
        CHECK.due("p33: i -1", x.shift(0, -1, 2, 0, 1), -13);
        CHECK.due("p33: j -1", x.shift(0, 0, 2, -1, 1), -13);
        CHECK.due("p33: beyond the one's end", x.shift(0, 2, 2, 0, 3), -13);
        CHECK.due("p33: beyond the other's end", x.shift(0, 0, 2, 0, 4), -13);
        CHECK.due("p33: behind the one's end", x.shift(0, 5, 2, 0, 0), -13);
        CHECK.due("p33: behind the other's end", x.shift(0, 0, 2, 4, 0), -13);
        CHECK.due("p33: n most", x.shift(0, 1, 2, 0, MAX), -13);
        CHECK.due("p33: i most", x.shift(0, MAX, 2, 0, 1), -13);
        CHECK.due("p33: j most", x.shift(0, 0, 2, MAX, 1), -13);
        CHECK.due("p33: all least", x.shift(0, MIN, 2, MIN, MIN), -13);
        reads(x, 2, 0, 0, 0);
    }

    private static void judged() {
        RepairGroups x = new RepairGroups();
        CHECK.due("p25: no nodes", x.judge(0, 0), -5);
        CHECK.due("p25: no nodes, any place", x.judge(0, MIN), -5);
        x.data(0, 0);
        x.data(0, 0);
        Check.parity(x, 0, 0, "x0+x1");
        x.write(0, 3);
        x.write(1, 5);
        x.tape(4, 0, 6);
        int[] row = {9, 3, 5, 6, 5, 5};
        for (int i = 0; i < row.length; i++) {
            x.item(4, i, row[i]);
        }
        CHECK.due("p25: all so", x.judge(4, 1), -5);
        CHECK.due("p25: the first isn't", x.judge(4, 0), 0);
        CHECK.due("p25: the first isn't there either", x.judge(4, 4), 0);
        x.write(0, 5);
        CHECK.due("p25: the first two are", x.judge(4, 4), 102);
        CHECK.due("p25: the second isn't", x.judge(4, 2), 1);
        x.lose(1);
        CHECK.due("p25: 6 is not MISSING", x.judge(4, 2), 1);
        x.item(4, 3, -1);
        CHECK.due("p25: MISSING, the third isn't so", x.judge(4, 2), 2);
        x.item(4, 4, 0);
        CHECK.due("p25: with MISSING", x.judge(4, 2), -5);
        x.item(4, 2, 255);
        x.lose(0);
        CHECK.due("p25: 255 is -1 in a byte", x.judge(4, 2), -5);
    }

    private static void judgedShort() {
        RepairGroups x = new RepairGroups();
        x.data(0, 0);
        x.data(0, 0);
        CHECK.due("p25: it holds nothing", x.judge(2, 0), 100);
        x.tape(2, 0, 0);
        CHECK.due("p25: none in it", x.judge(2, 0), 100);
        x.tape(2, 0, 3);
        CHECK.due("p25: two so", x.judge(2, 1), -5);
        CHECK.due("p25: one, then the end", x.judge(2, 2), 101);
        CHECK.due("p25: at the end", x.judge(2, 3), 100);
        CHECK.due("p25: behind the end", x.judge(2, 4), 100);
        CHECK.due("p25: far behind", x.judge(2, MAX), 100);
        CHECK.due("p25: place -1", x.judge(2, -1), 100);
        CHECK.due("p25: place least", x.judge(2, MIN), 100);
        x.item(2, 2, 1);
        CHECK.due("p25: otherwise ahead of the end", x.judge(2, 2), 0);
    }

    private static void judgedRefused() {
        RepairGroups x = new RepairGroups();
        CHECK.due("p25: tape -1", x.judge(-1, 0), -1);
        CHECK.due("p25: tape 6", x.judge(6, 0), -1);
        for (int sort = 1; sort <= 4; sort++) {
            x.tape(sort, sort, 1);
            CHECK.due("p25: sort " + sort + ", no nodes", x.judge(sort, 0), -12);
        }
        x.data(0, 0);
        for (int sort = 1; sort <= 4; sort++) {
            CHECK.due("p25: sort " + sort, x.judge(sort, -1), -12);
        }
        x.tape(0, 0, 1);
        CHECK.due("p25: bytes", x.judge(0, 0), -5);
    }
}
