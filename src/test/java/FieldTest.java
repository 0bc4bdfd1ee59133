/** Promises 1 to 3: a new object, field, calc. */
public final class FieldTest {
    private static final Check CHECK = new Check("FieldTest");
    private static final int[] FIELDS = {19, 25, 31};
    private static final int[] GENERATORS = {2, 2, 3};

    public static void main(String[] args) {
        newObject();
        whichAreFields();
        fieldWithNodes();
        tables();
        powers();
        refusedSums();
        CHECK.end();
    }

    private static void newObject() {
        RepairGroups x = new RepairGroups();
        CHECK.due("p1: count(0)", x.count(0), 0);
        CHECK.due("p1: count(1)", x.count(1), 0);
        CHECK.due("p1: of(0, 0)", x.of(0, 0), -1);
        CHECK.due("p1: told(0)", x.told(0), 19);
        CHECK.due("p1: told(2)", x.told(2), 0);
        CHECK.due("p1: told(5)", x.told(5), 1);
        CHECK.due("p1: told(6)", x.told(6), -5);
        for (int tape = 0; tape <= 5; tape++) {
            CHECK.due("p1: item of a new tape", x.item(tape, 0, 1), -11);
        }
    }

    private static void whichAreFields() {
        for (int poly = 0; poly <= 40; poly++) {
            RepairGroups x = new RepairGroups();
            int at = indexOf(poly);
            CHECK.due("p2: field(" + poly + ")", x.field(poly), at < 0 ? -2 : GENERATORS[at]);
            CHECK.due("p2: told(0) after field(" + poly + ")", x.told(0), at < 0 ? 19 : poly);
            CHECK.due("p2: told(1) after field(" + poly + ")", x.told(1), at < 0 ? 2 : GENERATORS[at]);
        }
        RepairGroups x = new RepairGroups();
        CHECK.due("p2: field(MIN)", x.field(Integer.MIN_VALUE), -2);
        CHECK.due("p2: field(MAX)", x.field(Integer.MAX_VALUE), -2);
        CHECK.due("p2: field(19 + 32)", x.field(51), -2);
    }

    private static int indexOf(int poly) {
        for (int i = 0; i < FIELDS.length; i++) {
            if (FIELDS[i] == poly) {
                return i;
            }
        }
        return -1;
    }

    private static void fieldWithNodes() {
        RepairGroups x = new RepairGroups();
        CHECK.due("p2: image()", x.image(), 0);
        x.data(0, 0);
        CHECK.due("p2: field(25) with nodes", x.field(25), -3);
        CHECK.due("p2: field(19) with nodes", x.field(19), -3);
        CHECK.due("p2: field(16) with nodes", x.field(16), -2);
        CHECK.due("p2: POLY stays", x.told(0), 19);
        CHECK.due("p2: undo()", x.undo(), 0);
        CHECK.due("p2: field(31) when none are left", x.field(31), 3);
    }

    /** By the document's own words: bits of one, the other so many places higher, POLY from the top. */
    private static int product(int poly, int a, int b) {
        int sum = 0;
        for (int i = 0; i < 4; i++) {
            if ((b & 1 << i) != 0) {
                sum ^= a << i;
            }
        }
        for (int place = 6; place >= 4; place--) {
            if ((sum & 1 << place) != 0) {
                sum ^= poly << place - 4;
            }
        }
        return sum;
    }

    private static void tables() {
        for (int poly : FIELDS) {
            RepairGroups x = new RepairGroups();
            x.field(poly);
            for (int a = 0; a <= 15; a++) {
                for (int b = 0; b <= 15; b++) {
                    String of = "(" + a + ", " + b + ") by " + poly;
                    CHECK.due("p3: sum " + of, x.calc(0, a, b), a ^ b);
                    CHECK.due("p3: product " + of, x.calc(1, a, b), product(poly, a, b));
                    if (b != 0) {
                        CHECK.due("p3: quotient " + of, product(poly, x.calc(2, a, b), b), a);
                    }
                }
            }
        }
    }

    private static void powers() {
        for (int k = 0; k < FIELDS.length; k++) {
            RepairGroups x = new RepairGroups();
            x.field(FIELDS[k]);
            for (int a = 0; a <= 15; a++) {
                int power = 1;
                for (int n = 0; n <= 99; n++) {
                    CHECK.due("p3: " + a + " power " + n, x.calc(3, a, n), power);
                    power = product(FIELDS[k], power, a);
                }
            }
            int power = 1;
            for (int n = 0; n <= 14; n++) {
                CHECK.due("p3: EXP " + n, x.calc(4, n, -77), power);
                CHECK.due("p3: LOG " + power, x.calc(5, power, 1000), n);
                power = product(FIELDS[k], power, GENERATORS[k]);
            }
        }
    }

    private static void refusedSums() {
        RepairGroups x = new RepairGroups();
        int[] whats = {-1, 6, Integer.MIN_VALUE, Integer.MAX_VALUE};
        for (int what : whats) {
            CHECK.due("p3: calc(" + what + ", 99, 99)", x.calc(what, 99, 99), -1);
        }
        for (int what = 0; what <= 2; what++) {
            CHECK.due("p3: a above", x.calc(what, 16, 1), -2);
            CHECK.due("p3: a below", x.calc(what, -1, 1), -2);
            CHECK.due("p3: b above", x.calc(what, 1, 16), -2);
            CHECK.due("p3: b below", x.calc(what, 1, -1), -2);
        }
        CHECK.due("p3: by 0", x.calc(2, 0, 0), -2);
        CHECK.due("p3: power of 16", x.calc(3, 16, 1), -2);
        CHECK.due("p3: power of -1", x.calc(3, -1, 1), -2);
        CHECK.due("p3: power -1", x.calc(3, 1, -1), -2);
        CHECK.due("p3: power 100", x.calc(3, 1, 100), -2);
        CHECK.due("p3: EXP of -1", x.calc(4, -1, 0), -2);
        CHECK.due("p3: EXP of 15", x.calc(4, 15, 0), -2);
        CHECK.due("p3: LOG of 0", x.calc(5, 0, 0), -2);
        CHECK.due("p3: LOG of 16", x.calc(5, 16, 0), -2);
        CHECK.due("p3: LOG of -1", x.calc(5, -1, 0), -2);
    }
}
