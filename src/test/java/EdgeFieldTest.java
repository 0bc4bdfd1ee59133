/** Promises 1 to 3 and THE FIELD at their edges: a test for each sentence. */
public final class EdgeFieldTest {
    private static final Check CHECK = new Check("EdgeFieldTest");
    private static final int MAX = Integer.MAX_VALUE, MIN = Integer.MIN_VALUE;
    private static final int[] FIELDS = {19, 25, 31};

    public static void main(String[] args) {
        noNodes();
        polyAtFirst();
        polyOutOfRange();
        noFieldByIt();
        eachTimesSomeIsOne();
        generator();
        nodesCame();
        badAheadOfState();
        noNodesAgain();
        productOfSixteenAndMore();
        whatCalc();
        whatAheadOfBad();
        notOfTheField();
        byZero();
        powers();
        powerOfZero();
        powersWrap();
        exp();
        log();
        doesNotMatter();
        CHECK.end();
    }

    private static void no(Twins.Calls made, String call, Twins.Call it, long want) {
        Twins.unchanged(CHECK, made, call, it, want);
    }

    private static RepairGroups by(int poly) {
        RepairGroups x = new RepairGroups();
        x.field(poly);
        return x;
    }

    private static void noNodes() {
        CHECK.sentence("p1 No NODES.");
        RepairGroups x = new RepairGroups();
        for (int what = 0; what <= 5; what++) {
            CHECK.due("count(" + what + ")", x.count(what), 0);
        }
        for (int node = 0; node <= 10; node++) {
            CHECK.due("of(" + node + ", 0)", x.of(node, 0), -1);
            CHECK.due("lose(" + node + ")", x.lose(node), -1);
        }
        CHECK.due("told(2)", x.told(2), 0);
        CHECK.due("told(3)", x.told(3), 0);
        CHECK.due("told(4)", x.told(4), 0);
        CHECK.due("told(5)", x.told(5), 1);
        CHECK.due("rank(0)", x.rank(0), 0);
        CHECK.due("rank(1)", x.rank(1), -1);
        CHECK.due("undo()", x.undo(), -3);
    }

    private static void polyAtFirst() {
        CHECK.sentence("POLY: 16 .. 31, 19 at first.");
        RepairGroups x = new RepairGroups();
        CHECK.due("told(0)", x.told(0), 19);
        CHECK.due("told(1)", x.told(1), 2);
        CHECK.due("calc(1, 8, 2)", x.calc(1, 8, 2), 3);
    }

    private static void polyOutOfRange() {
        CHECK.sentence("p2 BAD: it isn't 16 .. 31");
        for (int poly : Check.outside(16, 31)) {
            no(Twins.EMPTY, "field(" + poly + ")", x -> x.field(poly), -2);
        }
        int[] alike = {0, 1, 3, 9, 15, 19 - 32, 19 + 32, 25 + 32, 25 + 64, 19 + 256, MIN + 19, MIN + 25, -19, -25};
        for (int poly : alike) {
            no(Twins.EMPTY, "field(" + poly + ")", x -> x.field(poly), -2);
        }
        CHECK.due("the last that is: field(31)", new RepairGroups().field(31), 3);
    }

    private static void noFieldByIt() {
        CHECK.sentence("p2 or there is no FIELD by it");
        for (int poly = 16; poly <= 31; poly++) {
            int told = poly;
            if (poly != 19 && poly != 25 && poly != 31) {
                no(Twins.EMPTY, "field(" + poly + ")", x -> x.field(told), -2);
            }
        }
    }

    private static void eachTimesSomeIsOne() {
        CHECK.sentence("It is a FIELD, if each but 0 times some number is 1.");
        for (int poly : FIELDS) {
            RepairGroups x = by(poly);
            CHECK.due("told(0)", x.told(0), poly);
            for (int a = 1; a <= 15; a++) {
                int other = x.calc(2, 1, a);
                CHECK.due(a + " times " + other + " by " + poly, x.calc(1, a, other), 1);
            }
        }
    }

    private static void generator() {
        CHECK.sentence("The GENERATOR: the least number of whose powers each but 0 is one.");
        CHECK.due("field(19)", new RepairGroups().field(19), 2);
        CHECK.due("field(25)", new RepairGroups().field(25), 2);
        CHECK.due("field(31), where 2's power 5 is 1", new RepairGroups().field(31), 3);
        for (int poly : FIELDS) {
            RepairGroups x = by(poly);
            int powers = 0;
            for (int n = 0; n <= 14; n++) {
                powers |= 1 << x.calc(3, x.told(1), n);
            }
            CHECK.due("powers of " + x.told(1) + " by " + poly, powers, 0xFFFE);
        }
        CHECK.due("2's power 5 by 31", by(31).calc(3, 2, 5), 1);
    }

    private static void nodesCame() {
        CHECK.sentence("p2 STATE: NODES came.");
        for (int poly : FIELDS) {
            no(x -> x.data(0, 0), "field(" + poly + ") with a DATA", x -> x.field(poly), -3);
            no(x -> Check.parity(x, 0, 0, "x0"), "field(" + poly + ") with a PARITY alone", x -> x.field(poly), -3);
            no(Twins.RICH, "field(" + poly + ")", x -> x.field(poly), -3);
            no(Twins.FULL, "field(" + poly + ")", x -> x.field(poly), -3);
        }
        RepairGroups x = new RepairGroups();
        Check.feed(x, "x0");
        x.tape(0, 0, 1);
        x.image();
        CHECK.due("field(25), no NODES came", x.field(25), 2);
    }

    private static void badAheadOfState() {
        CHECK.sentence("p2 BAD .. STATE: the first that a call's words name");
        int[] bad = {15, 16, 18, 20, 21, 30, 32, MIN, MAX};
        for (int poly : bad) {
            no(Twins.RICH, "field(" + poly + ")", x -> x.field(poly), -2);
        }
    }

    private static void noNodesAgain() {
        CHECK.sentence("p2 STATE: not, if there are no NODES (again)");
        RepairGroups x = new RepairGroups();
        x.image();
        x.data(0, 0);
        CHECK.due("field(31)", x.field(31), -3);
        x.undo();
        CHECK.due("field(31) then", x.field(31), 3);
        CHECK.due("told(0)", x.told(0), 31);
    }

    private static void productOfSixteenAndMore() {
        CHECK.sentence("as long as that is 16 or more, POLY, so many places higher that its highest bit (16) is the highest one there, is summed to it");
        int[] atSixteen = {3, 9, 15};
        int[] highest = {10, 3, 8};
        for (int k = 0; k < FIELDS.length; k++) {
            RepairGroups x = by(FIELDS[k]);
            CHECK.due("15, by 1 and 15", x.calc(1, 1, 15), 15);
            CHECK.due("15, by 5 and 3", x.calc(1, 5, 3), 15);
            CHECK.due("15, by 3 and 5", x.calc(1, 3, 5), 15);
            CHECK.due("16, by 2 and 8", x.calc(1, 2, 8), atSixteen[k]);
            CHECK.due("16, by 8 and 2", x.calc(1, 8, 2), atSixteen[k]);
            CHECK.due("16, by 4 and 4", x.calc(1, 4, 4), atSixteen[k]);
            CHECK.due("the highest, 15 and 15", x.calc(1, 15, 15), highest[k]);
            CHECK.due("0 and 15", x.calc(1, 0, 15), 0);
            CHECK.due("15 and 0", x.calc(1, 15, 0), 0);
        }
    }

    private static void whatCalc() {
        CHECK.sentence("p3 NONE: what");
        for (int what : Check.outside(0, 5)) {
            for (Twins.Calls made : Twins.ALL) {
                no(made, "calc(" + what + ", 1, 1)", x -> x.calc(what, 1, 1), -1);
            }
        }
        RepairGroups x = new RepairGroups();
        CHECK.due("the first: calc(0, 1, 2)", x.calc(0, 1, 2), 3);
        CHECK.due("the last: calc(5, 2, 2)", x.calc(5, 2, 2), 1);
    }

    private static void whatAheadOfBad() {
        CHECK.sentence("p3 NONE .. BAD: the first that a call's words name");
        for (int what : Check.outside(0, 5)) {
            no(Twins.EMPTY, "calc(" + what + ", 16, 0)", x -> x.calc(what, 16, 0), -1);
            no(Twins.EMPTY, "calc(" + what + ", -1, 100)", x -> x.calc(what, -1, 100), -1);
        }
    }

    private static void notOfTheField() {
        CHECK.sentence("p3 BAD: a, b (by 0 .. 2: not of THE FIELD");
        for (int w = 0; w <= 2; w++) {
            int what = w;
            for (int bad : Check.outside(0, 15)) {
                no(Twins.RICH, "calc(" + what + ", " + bad + ", 1)", x -> x.calc(what, bad, 1), -2);
                no(Twins.RICH, "calc(" + what + ", 1, " + bad + ")", x -> x.calc(what, 1, bad), -2);
                no(Twins.EMPTY, "calc(" + what + ", " + bad + ", " + bad + ")", x -> x.calc(what, bad, bad), -2);
            }
        }
        RepairGroups x = new RepairGroups();
        CHECK.due("the least: calc(0, 0, 0)", x.calc(0, 0, 0), 0);
        CHECK.due("the greatest: calc(0, 15, 15)", x.calc(0, 15, 15), 0);
        CHECK.due("calc(0, 15, 0)", x.calc(0, 15, 0), 15);
        CHECK.due("calc(0, 0, 15)", x.calc(0, 0, 15), 15);
        CHECK.due("calc(1, 15, 1)", x.calc(1, 15, 1), 15);
        CHECK.due("calc(2, 0, 15)", x.calc(2, 0, 15), 0);
        CHECK.due("calc(2, 15, 15)", x.calc(2, 15, 15), 1);
    }

    private static void byZero() {
        CHECK.sentence("p3 by 2: b is 0");
        for (int a = 0; a <= 15; a++) {
            int over = a;
            no(Twins.EMPTY, "calc(2, " + a + ", 0)", x -> x.calc(2, over, 0), -2);
            CHECK.due("calc(2, " + a + ", 1)", new RepairGroups().calc(2, a, 1), a);
        }
        CHECK.due("by 0 a sum is none of these", new RepairGroups().calc(0, 7, 0), 7);
        CHECK.due("nor a product", new RepairGroups().calc(1, 7, 0), 0);
    }

    private static void powers() {
        CHECK.sentence("p3 a's power b (b 0 .. 99");
        for (int bad : Check.outside(0, 99)) {
            no(Twins.RICH, "calc(3, 2, " + bad + ")", x -> x.calc(3, 2, bad), -2);
            no(Twins.EMPTY, "calc(3, 0, " + bad + ")", x -> x.calc(3, 0, bad), -2);
            no(Twins.EMPTY, "calc(3, 1, " + bad + ")", x -> x.calc(3, 1, bad), -2);
        }
        for (int bad : Check.outside(0, 15)) {
            no(Twins.EMPTY, "calc(3, " + bad + ", 0)", x -> x.calc(3, bad, 0), -2);
            no(Twins.EMPTY, "calc(3, " + bad + ", 1)", x -> x.calc(3, bad, 1), -2);
        }
        RepairGroups x = new RepairGroups();
        CHECK.due("the least: calc(3, 2, 0)", x.calc(3, 2, 0), 1);
        CHECK.due("the greatest: calc(3, 2, 99)", x.calc(3, 2, 99), 10);
        CHECK.due("calc(3, 15, 1)", x.calc(3, 15, 1), 15);
    }

    private static void powerOfZero() {
        CHECK.sentence("p3 0's power 0: 1");
        RepairGroups x = new RepairGroups();
        CHECK.due("calc(3, 0, 0)", x.calc(3, 0, 0), 1);
        CHECK.due("calc(3, 0, 1)", x.calc(3, 0, 1), 0);
        CHECK.due("calc(3, 0, 15)", x.calc(3, 0, 15), 0);
        CHECK.due("calc(3, 0, 99)", x.calc(3, 0, 99), 0);
    }

    private static void powersWrap() {
        CHECK.sentence("p3 powers beyond 14 come round");
        for (int poly : FIELDS) {
            RepairGroups x = by(poly);
            for (int a = 1; a <= 15; a++) {
                CHECK.due(a + "'s power 15", x.calc(3, a, 15), 1);
                CHECK.due(a + "'s power 16", x.calc(3, a, 16), a);
                CHECK.due(a + "'s power 99", x.calc(3, a, 99), x.calc(3, a, 9));
            }
        }
    }

    private static void exp() {
        CHECK.sentence("p3 by 4: not 0 .. 14");
        for (int bad : Check.outside(0, 14)) {
            no(Twins.EMPTY, "calc(4, " + bad + ", 0)", x -> x.calc(4, bad, 0), -2);
        }
        no(Twins.RICH, "calc(4, 15, 0)", x -> x.calc(4, 15, 0), -2);
        int[] lastOnes = {9, 12, 10};
        for (int k = 0; k < FIELDS.length; k++) {
            RepairGroups x = by(FIELDS[k]);
            CHECK.due("the least (power 0: 1)", x.calc(4, 0, 0), 1);
            CHECK.due("power 1", x.calc(4, 1, 0), x.told(1));
            CHECK.due("the greatest", x.calc(4, 14, 0), lastOnes[k]);
        }
    }

    private static void log() {
        CHECK.sentence("p3 by 5: 0");
        no(Twins.EMPTY, "calc(5, 0, 0)", x -> x.calc(5, 0, 0), -2);
        no(Twins.RICH, "calc(5, 0, 1)", x -> x.calc(5, 0, 1), -2);
        for (int bad : Check.outside(1, 15)) {
            no(Twins.EMPTY, "calc(5, " + bad + ", 1)", x -> x.calc(5, bad, 1), -2);
        }
        for (int poly : FIELDS) {
            RepairGroups x = by(poly);
            CHECK.due("LOG of 1", x.calc(5, 1, 0), 0);
            CHECK.due("LOG of the GENERATOR", x.calc(5, x.told(1), 0), 1);
            CHECK.due("the greatest LOG", x.calc(5, x.calc(4, 14, 0), 0), 14);
            CHECK.due("of the greatest", x.calc(4, x.calc(5, 15, 0), 0), 15);
        }
    }

    private static void doesNotMatter() {
        CHECK.sentence("p3 4 EXP of a (b does not matter), 5 LOG of a (likewise)");
        int[] bs = {MIN, -1, 0, 1, 16, 100, MAX};
        for (int b : bs) {
            no(Twins.EMPTY, "calc(4, 3, " + b + ")", x -> x.calc(4, 3, b), 8);
            no(Twins.EMPTY, "calc(5, 8, " + b + ")", x -> x.calc(5, 8, b), 3);
            no(Twins.EMPTY, "calc(4, 15, " + b + ")", x -> x.calc(4, 15, b), -2);
            no(Twins.EMPTY, "calc(5, 0, " + b + ")", x -> x.calc(5, 0, b), -2);
        }
    }
}
