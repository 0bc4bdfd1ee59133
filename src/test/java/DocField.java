/** The document's words on THE FIELD. */
final class DocField {
    /** Powers of 2 by 19, of 2 by 25 and of 3 by 31. */
    private static final int[][] POWERS = {
        {1, 2, 4, 8, 3, 6, 12, 11, 5, 10, 7, 14, 15, 13, 9},
        {1, 2, 4, 8, 9, 11, 15, 7, 14, 5, 10, 13, 3, 6, 12},
        {1, 3, 5, 15, 14, 13, 8, 7, 9, 4, 12, 11, 2, 6, 10}};
    private static final int[] POLYS = {19, 25, 31};

    private final Doc doc;
    private final Check check;

    DocField(Doc doc) {
        this.doc = doc;
        check = doc.check;
    }

    void all() {
        numbers();
        sums();
        products();
        polys();
        powers();
    }

    private static RepairGroups by(int poly) {
        RepairGroups x = new RepairGroups();
        x.field(poly);
        return x;
    }

    private void numbers() {
        doc.says("==== 1 THE FIELD: numbers 0 .. 15, as bits.");
        for (int n = -3; n <= 20; n++) {
            boolean isNumber = n >= 0 && n <= 15;
            check.due("sum of " + n + " and 0", new RepairGroups().calc(0, n, 0), isNumber ? n : -2);
            check.due("product of 1 and " + n, new RepairGroups().calc(1, 1, n), isNumber ? n : -2);
        }
    }

    private void sums() {
        doc.says("The sum of two: those bits that one of them has.");
        RepairGroups x = new RepairGroups();
        check.due("12 and 10", x.calc(0, 12, 10), 6);
        check.due("9 and 6", x.calc(0, 9, 6), 15);
        check.due("15 and 15", x.calc(0, 15, 15), 0);
        check.due("0 and 7", x.calc(0, 0, 7), 7);
    }

    private void products() {
        doc.says("The product: of the bits of one, for each that it has (bit i), the other i places higher, all of these summed "
            + "(a number below 128);");
        for (int poly : POLYS) {
            RepairGroups x = by(poly);
            check.due("3 and 3", x.calc(1, 3, 3), 5);
            check.due("3 and 5", x.calc(1, 3, 5), 15);
            check.due("2 and 7", x.calc(1, 2, 7), 14);
            check.due("5 and 3", x.calc(1, 5, 3), 15);
            check.due("0 and 15", x.calc(1, 0, 15), 0);
        }
        doc.says("as long as that is 16 or more, POLY, so many places higher that its highest bit (16) is the highest one there, "
            + "is summed to it.");
        check.due("8 and 8 by 19: 64, less 76 is 12", by(19).calc(1, 8, 8), 12);
        check.due("8 and 8 by 25: 64, less 100 is 36, less 50 is 22, less 25 is 15", by(25).calc(1, 8, 8), 15);
        check.due("8 and 8 by 31: 64, less 124 is 60, less 62 is 2", by(31).calc(1, 8, 8), 2);
        check.due("15 and 15 by 19: 85, less 76 is 25, less 19 is 10", by(19).calc(1, 15, 15), 10);
        check.due("4 and 4 by 25: 16, less 25 is 9", by(25).calc(1, 4, 4), 9);
        check.due("2 and 8 by 31: 16, less 31 is 15", by(31).calc(1, 2, 8), 15);
    }

    private void polys() {
        doc.says("POLY: 16 .. 31, 19 at first.");
        check.due("at first", new RepairGroups().told(0), 19);
        for (int poly : new int[] {0, 3, 15, 32, 35, 37, -19}) {
            check.due("field(" + poly + ")", new RepairGroups().field(poly), -2);
        }
        for (int poly : POLYS) {
            check.due("POLY " + poly, by(poly).told(0), poly);
        }
        doc.says("It is a FIELD, if each but 0 times some number is 1.");
        for (int poly = 16; poly <= 31; poly++) {
            boolean isField = poly == 19 || poly == 25 || poly == 31;
            check.yes("a FIELD by " + poly, isField == new RepairGroups().field(poly) > 0);
        }
        for (int poly : POLYS) {
            for (int n = 1; n <= 15; n++) {
                RepairGroups x = by(poly);
                check.due(n + " times what is 1 by " + poly, x.calc(1, n, x.calc(2, 1, n)), 1);
            }
        }
    }

    private void powers() {
        doc.says("The GENERATOR: the least number of whose powers each but 0 is one.");
        check.due("by 19", by(19).told(1), 2);
        check.due("by 25", by(25).told(1), 2);
        check.due("by 31, where 2's powers are 1, 2, 4, 8, 15", by(31).told(1), 3);
        check.due("2's power 5 by 31", by(31).calc(3, 2, 5), 1);
        doc.says("EXP of n (0 .. 14): the GENERATOR's power n (power 0: 1).");
        for (int k = 0; k < POLYS.length; k++) {
            for (int n = 0; n <= 14; n++) {
                check.due("EXP of " + n + " by " + POLYS[k], by(POLYS[k]).calc(4, n, 0), POWERS[k][n]);
            }
        }
        doc.says("LOG of a number but 0: that n.");
        for (int k = 0; k < POLYS.length; k++) {
            for (int n = 0; n <= 14; n++) {
                check.due("LOG by " + POLYS[k], by(POLYS[k]).calc(5, POWERS[k][n], 0), n);
            }
        }
    }
}
