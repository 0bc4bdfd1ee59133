/** Promises 5 and 6, THE TEXT, FORMs and the FAULT at their edges: a test for each sentence. */
public final class EdgeTextTest {
    private static final Check CHECK = new Check("EdgeTextTest");
    private static final int MAX = Integer.MAX_VALUE, MIN = Integer.MIN_VALUE;

    public static void main(String[] args) {
        signs();
        hundredAtMost();
        badAheadOfFull();
        kinds();
        numbers();
        fullOfParities();
        theseStay();
        firstOfTwo();
        emptyText();
        endsTooEarly();
        endsTooEarlyWhenFull();
        faultAtThePlace();
        emptyByAFault();
        dataMissing();
        emptyByState();
        notMissing();
        digits();
        hexadecimal();
        hexadecimalBounds();
        noBlanks();
        fourDeep();
        fiveDeep();
        withinItsTerm();
        timesAll();
        thereYetOrNot();
        zeros();
        CHECK.end();
    }

    private static void no(Twins.Calls made, String call, Twins.Call it, long want) {
        Twins.unchanged(CHECK, made, call, it, want);
    }

    private static void fault(String text, int place) {
        RepairGroups x = new RepairGroups();
        CHECK.due("parity by \"" + text + "\"", Check.parity(x, 0, 0, text), -10 - place);
        CHECK.due("count(5) after \"" + text + "\"", x.count(5), 0);
        CHECK.due("count(0) after \"" + text + "\"", x.count(0), 0);
    }

    private static void form(String text, int... numbers) {
        RepairGroups x = new RepairGroups();
        CHECK.due("parity by \"" + text + "\"", Check.parity(x, 0, 0, text), 0);
        for (int d = 0; d < 5; d++) {
            CHECK.due("number for DATA " + d + " in " + text, x.of(0, 10 + d), d < numbers.length ? numbers[d] : 0);
        }
    }

    private static void signs() {
        CHECK.sentence("p5 A sign (0 .. 127) .. BAD");
        int[] bad = {-1, 128, -128, 255, 256, 256 + 'x', 'x' - 256, 65536 + 'x', MIN, MIN + 'x', MAX};
        for (int sign : bad) {
            for (Twins.Calls made : Twins.ALL) {
                no(made, "feed(" + sign + ")", x -> x.feed(sign), -2);
            }
        }
        for (int sign = 0; sign <= 127; sign++) {
            CHECK.due("feed(" + sign + ")", new RepairGroups().feed(sign), 1);
        }
    }

    private static void hundredAtMost() {
        CHECK.sentence("THE TEXT (bytes, 100 at most) .. p5 FULL");
        RepairGroups x = new RepairGroups();
        String text = Twins.hundred();
        for (int n = 1; n <= 100; n++) {
            CHECK.due("sign " + n, x.feed(text.charAt(n - 1)), n);
        }
        CHECK.due("sign 101", x.feed('+'), -4);
        CHECK.due("sign 101 again", x.feed('x'), -4);
        CHECK.due("count(5)", x.count(5), 100);
        CHECK.due("parity by all 100", x.parity(0, 0), 0);
        CHECK.due("x0", x.of(0, 10), 1);
        CHECK.due("x1, even times", x.of(0, 11), 0);
        CHECK.due("from the start again", x.feed('x'), 1);
        no(Twins.FULL, "feed('x')", y -> y.feed('x'), -4);
        no(Twins.FULL, "feed(0)", y -> y.feed(0), -4);
        no(Twins.FULL, "feed(127)", y -> y.feed(127), -4);
    }

    private static void badAheadOfFull() {
        CHECK.sentence("p5 BAD; FULL: the first that a call's words name");
        int[] bad = {-1, 128, MIN, MAX};
        for (int sign : bad) {
            no(Twins.FULL, "feed(" + sign + ")", x -> x.feed(sign), -2);
        }
    }

    private static void kinds() {
        CHECK.sentence("p6 NONE: kind");
        for (int kind : Check.outside(0, 6)) {
            for (Twins.Calls made : Twins.ALL) {
                no(made, "parity(" + kind + ", 0)", x -> x.parity(kind, 0), -1);
            }
        }
        for (int kind = 0; kind <= 6; kind++) {
            RepairGroups x = new RepairGroups();
            CHECK.due("parity(" + kind + ", 0)", Check.parity(x, kind, 0, "x0"), 0);
            CHECK.due("its KIND", x.of(0, 0), kind);
        }
    }

    private static void numbers() {
        CHECK.sentence("p6 BAD: v");
        for (int v : Check.outside(0, 9)) {
            for (Twins.Calls made : Twins.ALL) {
                no(made, "parity(0, " + v + ")", x -> x.parity(0, v), -2);
            }
        }
        for (int v = 0; v <= 9; v++) {
            RepairGroups x = new RepairGroups();
            CHECK.due("parity(0, " + v + ")", Check.parity(x, 0, v, "x0"), 0);
            CHECK.due("its v", x.of(0, 1), v);
        }
    }

    private static void fullOfParities() {
        CHECK.sentence("PARITIES (5 at most) .. p6 FULL: 5");
        RepairGroups x = new RepairGroups();
        for (int d = 0; d < 5; d++) {
            CHECK.due("data(0, 0)", x.data(0, 0), d);
        }
        for (int n = 1; n <= 5; n++) {
            CHECK.due("PARITY " + n + ", five DATA ahead", Check.parity(x, 0, 0, "x0"), 4 + n);
        }
        CHECK.due("PARITY 6", Check.parity(x, 0, 0, "x0"), -4);
        no(Twins.FULL, "parity(6, 9)", y -> y.parity(6, 9), -4);
        RepairGroups z = new RepairGroups();
        for (int n = 1; n <= 5; n++) {
            CHECK.due("PARITY " + n + " alone", Check.parity(z, 0, 0, "x0"), n - 1);
        }
        CHECK.due("PARITY 6 alone", Check.parity(z, 0, 0, "x0"), -4);
        CHECK.due("a DATA comes still", z.data(0, 0), 5);
    }

    private static void theseStay() {
        CHECK.sentence("p6 (by these THE TEXT stays)");
        RepairGroups x = new RepairGroups();
        Check.feed(x, "x0+");
        CHECK.due("parity(7, 0)", x.parity(7, 0), -1);
        CHECK.due("count(5)", x.count(5), 3);
        CHECK.due("parity(0, 10)", x.parity(0, 10), -2);
        CHECK.due("count(5)", x.count(5), 3);
        Check.feed(x, "3*x2");
        CHECK.due("parity(0, 0) by all of it", x.parity(0, 0), 0);
        CHECK.due("x0", x.of(0, 10), 1);
        CHECK.due("x2", x.of(0, 12), 3);
        for (int n = 1; n < 5; n++) {
            Check.parity(x, 0, 0, "x1");
        }
        Check.feed(x, "x4");
        CHECK.due("parity(0, 0), the sixth", x.parity(0, 0), -4);
        CHECK.due("count(5)", x.count(5), 2);
    }

    private static void firstOfTwo() {
        CHECK.sentence("p6 NONE .. BAD .. FULL .. -10 less the FAULT .. STATE: the first that a call's words name");
        Twins.Calls fault = x -> {
            x.data(0, 0);
            x.lose(0);
            Check.feed(x, "x0+");
        };
        no(fault, "kind ahead of v and the FAULT", x -> x.parity(-1, -1), -1);
        no(fault, "v ahead of the FAULT", x -> x.parity(0, -1), -2);
        no(Twins.FULL, "kind ahead of v and FULL", x -> x.parity(7, 10), -1);
        no(Twins.FULL, "kind ahead of FULL", x -> x.parity(7, 0), -1);
        no(Twins.FULL, "v ahead of FULL", x -> x.parity(6, 10), -2);
        Twins.Calls fullAndFault = x -> {
            for (int n = 0; n < 5; n++) {
                Check.parity(x, 0, 0, "x0");
            }
            x.data(0, 0);
            x.lose(5);
            Check.feed(x, "x0)");
        };
        no(fullAndFault, "FULL ahead of the FAULT", x -> x.parity(0, 0), -4);
        no(fullAndFault, "kind ahead of FULL and the FAULT", x -> x.parity(7, 10), -1);
        no(fullAndFault, "v ahead of FULL and the FAULT", x -> x.parity(0, 10), -2);
        Twins.Calls fullAndMissing = x -> {
            for (int n = 0; n < 5; n++) {
                Check.parity(x, 0, 0, "x0");
            }
            x.data(0, 0);
            x.lose(5);
            Check.feed(x, "x0");
        };
        no(fullAndMissing, "FULL ahead of STATE", x -> x.parity(0, 0), -4);
        Twins.Calls missing = x -> {
            x.data(0, 0);
            x.lose(0);
            Check.feed(x, "x0");
        };
        no(missing, "kind ahead of STATE", x -> x.parity(7, 0), -1);
        no(missing, "v ahead of STATE", x -> x.parity(0, 10), -2);
        RepairGroups x = new RepairGroups();
        fault.on(x);
        CHECK.due("the FAULT ahead of STATE", x.parity(0, 0), -13);
    }

    private static void emptyText() {
        CHECK.sentence("The FAULT of an empty TEXT: its end");
        no(Twins.EMPTY, "parity(0, 0)", x -> x.parity(0, 0), -10);
        no(x -> x.data(0, 0), "parity(6, 9)", x -> x.parity(6, 9), -10);
    }

    private static void endsTooEarly() {
        CHECK.sentence("(the end of THE TEXT, if it ends too early)");
        String whole = "2*(x0+a*(x1))+(x2)";
        boolean[] isOne = new boolean[whole.length() + 1];
        isOne[13] = true;
        isOne[18] = true;
        for (int n = 0; n <= whole.length(); n++) {
            if (isOne[n]) {
                RepairGroups x = new RepairGroups();
                CHECK.due("parity by " + whole.substring(0, n), Check.parity(x, 0, 0, whole.substring(0, n)), 0);
            } else {
                fault(whole.substring(0, n), n);
            }
        }
    }

    private static void endsTooEarlyWhenFull() {
        CHECK.sentence("(the end of THE TEXT, if it ends too early), of 99 and 100 signs");
        String whole = Twins.hundred();
        CHECK.due("signs", whole.length(), 100);
        fault(whole.substring(0, 99), 99);
        fault(whole.substring(0, 98), 98);
        fault("(" + whole.substring(0, 97), 98);
        fault("(" + whole.substring(0, 97) + "+", 99);
        fault("(" + whole.substring(0, 97) + "+x", 100);
        fault(whole.substring(0, 97) + "+2*", 100);
        fault(whole.substring(0, 97) + "+((", 100);
    }

    private static void faultAtThePlace() {
        CHECK.sentence("The FAULT: the place of the first byte with which none begins so");
        String whole = Twins.hundred();
        fault(whole.substring(0, 99) + "5", 99);
        fault(whole.substring(0, 97) + ")x1", 97);
        fault(")" + whole.substring(1), 0);
        fault("+x0", 0);
        fault("*x0", 0);
        fault(")", 0);
        fault("y0", 0);
        fault("X0", 0);
        fault("x0x1", 2);
        fault("x00", 2);
        fault("x0)", 2);
        fault("x0*2", 2);
        fault("x0(x1)", 2);
        fault("x0++x1", 3);
        fault("x0+)", 3);
        fault("x0+*x1", 3);
        fault("2x0", 1);
        fault("2+x0", 1);
        fault("2)", 1);
        fault("22*x0", 1);
        fault("2(x0)", 1);
        fault("2**x0", 2);
        fault("2*+x0", 2);
        fault("2*)", 2);
        fault("()", 1);
        fault("(x0(", 3);
        fault("(x0))", 4);
        fault("(x0)x1", 4);
        fault("(x0)*2", 4);
        fault("(x0)(x1)", 4);
        fault("(x0+)", 4);
        fault("\0", 0);
        fault("x\0", 1);
        fault("x0\0", 2);
        fault("x0\177", 2);
        fault("x0+x1+x2+x3+x4+x5", 16);
    }

    private static void emptyByAFault() {
        CHECK.sentence("p6 THE TEXT, which is empty then (by a FAULT, too)");
        RepairGroups x = new RepairGroups();
        CHECK.due("by a FAULT", Check.parity(x, 0, 0, "x0+x5"), -14);
        CHECK.due("count(5)", x.count(5), 0);
        CHECK.due("feed('x')", x.feed('x'), 1);
        CHECK.due("feed('1')", x.feed('1'), 2);
        CHECK.due("parity(0, 0)", x.parity(0, 0), 0);
        CHECK.due("count(5)", x.count(5), 0);
        CHECK.due("x0 is not in it", x.of(0, 10), 0);
        CHECK.due("x1 is", x.of(0, 11), 1);
        CHECK.due("parity(0, 0) by none", x.parity(0, 0), -10);
        CHECK.due("count(0)", x.count(0), 1);
        RepairGroups y = new RepairGroups();
        CHECK.due("by a FAULT at the end of 100", Check.parity(y, 0, 0, Twins.hundred().substring(0, 99) + "x"), -109);
        CHECK.due("count(5)", y.count(5), 0);
        CHECK.due("feed(0)", y.feed(0), 1);
    }

    private static void dataMissing() {
        CHECK.sentence("p6 STATE: a DATA is MISSING for which its FORM has not 0");
        for (int lost = 0; lost < 5; lost++) {
            for (int d = 0; d < 5; d++) {
                RepairGroups x = new RepairGroups();
                for (int n = 0; n < 5; n++) {
                    x.data(0, 0);
                }
                x.lose(lost);
                CHECK.due("by x" + d + ", DATA " + lost + " MISSING", Check.parity(x, 0, 0, "x" + d), d == lost ? -3 : 5);
                CHECK.due("by f*x" + d + ", DATA " + lost + " MISSING", Check.parity(x, 0, 0, "f*x" + d), d == lost ? -3 : 6);
                CHECK.due("count(0)", x.count(0), d == lost ? 5 : 7);
            }
        }
        RepairGroups x = new RepairGroups();
        Check.parity(x, 0, 0, "x0");
        x.data(0, 0);
        x.lose(1);
        CHECK.due("node 1 is DATA 0", Check.parity(x, 0, 0, "x0"), -3);
        CHECK.due("DATA 1 hasn't come", Check.parity(x, 0, 0, "x1"), 2);
        x.repair(1);
        CHECK.due("REPAIRED", Check.parity(x, 0, 0, "x0"), 3);
    }

    private static void emptyByState() {
        CHECK.sentence("p6 (by these it is empty all the same)");
        RepairGroups x = new RepairGroups();
        x.data(0, 0);
        x.lose(0);
        CHECK.due("by x0", Check.parity(x, 0, 0, "x0"), -3);
        CHECK.due("count(5)", x.count(5), 0);
        CHECK.due("by none", x.parity(0, 0), -10);
        CHECK.due("by x1", Check.parity(x, 0, 0, "x1"), 1);
        CHECK.due("x0 is not in it", x.of(1, 10), 0);
        Twins.Calls lost = y -> {
            Twins.RICH.on(y);
            Check.parity(y, 0, 0, "+x0");
        };
        no(lost, "STATE changes no more than THE TEXT", y -> Check.parity(y, 0, 0, "x2"), -3);
        no(lost, "a FAULT changes no more than THE TEXT", y -> Check.parity(y, 0, 0, "x"), -11);
    }

    private static void notMissing() {
        CHECK.sentence("p6 STATE: not by a FORM that has 0 for it, by DATA that haven't come, or by a PARITY that is MISSING");
        String[] texts = {"x1", "x0+x0", "0*x0+x1", "2*x0+3*x0+1*x0", "0*(x0+x1)", "x4"};
        for (String text : texts) {
            RepairGroups x = new RepairGroups();
            x.data(0, 0);
            x.data(0, 0);
            Check.parity(x, 0, 0, "x1");
            x.lose(0);
            x.lose(2);
            CHECK.due("by " + text, Check.parity(x, 0, 0, text), 3);
        }
    }

    private static void digits() {
        CHECK.sentence("xn (n a digit 0 .. 4)");
        form("x0", 1);
        form("x1", 0, 1);
        form("x2", 0, 0, 1);
        form("x3", 0, 0, 0, 1);
        form("x4", 0, 0, 0, 0, 1);
        for (char sign = 0; sign <= 127; sign++) {
            if (sign < '0' || sign > '4') {
                fault("x" + sign, 1);
            }
        }
    }

    private static void hexadecimal() {
        CHECK.sentence("C: 0 .. 9 or a .. f (10 .. 15)");
        String digits = "0123456789abcdef";
        for (int c = 0; c <= 15; c++) {
            form(digits.charAt(c) + "*x0+x1", c, 1);
        }
    }

    private static void hexadecimalBounds() {
        CHECK.sentence("C: none but these");
        for (char sign = 0; sign <= 127; sign++) {
            boolean isC = sign >= '0' && sign <= '9' || sign >= 'a' && sign <= 'f';
            if (!isC) {
                fault(sign + "*x0", sign == 'x' || sign == '(' ? 1 : 0);
            }
        }
    }

    private static void noBlanks() {
        CHECK.sentence("No blanks.");
        String whole = "2*(x0+x1)+x2";
        String[] blanks = {" ", "\t", "\n"};
        for (String blank : blanks) {
            for (int at = 0; at <= whole.length(); at++) {
                fault(whole.substring(0, at) + blank + whole.substring(at), at);
            }
        }
    }

    /** Of ( and 2*, by the bits of a number, so many as deep; then x0, and all that is open is closed. */
    private static String nested(int bits, int deep) {
        StringBuilder text = new StringBuilder();
        StringBuilder closing = new StringBuilder();
        for (int n = 0; n < deep; n++) {
            boolean isTimes = (bits >> n & 1) != 0;
            text.append(isTimes ? "2*" : "(");
            closing.append(isTimes ? "" : ")");
        }
        return text + "x0" + closing;
    }

    private static void fourDeep() {
        CHECK.sentence("A ( or * within 3 others of these is one");
        int[] powers = {1, 2, 4, 8, 3};
        for (int deep = 0; deep <= 4; deep++) {
            for (int bits = 0; bits < 1 << deep; bits++) {
                form(nested(bits, deep), powers[Integer.bitCount(bits)]);
                form("x1+" + nested(bits, deep), powers[Integer.bitCount(bits)], 1);
            }
        }
    }

    private static void fiveDeep() {
        CHECK.sentence("A ( or * within 4 others of these is none");
        for (int bits = 0; bits < 32; bits++) {
            int ahead = 4 + Integer.bitCount(bits & 15);
            fault(nested(bits, 5), ahead);
            fault("x0+" + nested(bits, 5), 3 + ahead);
            fault(nested(bits, 6), ahead);
        }
        fault("((((x0+(", 7);
        fault("((((x0+2", 7);
        fault("((((2", 4);
        fault("2*2*2*2*", 8);
        fault("2*2*2*2*2", 8);
        fault("2*2*2*2*(", 8);
        fault("2*2*2*2*)", 8);
        fault("((((", 4);
    }

    private static void withinItsTerm() {
        CHECK.sentence("(all that a * stands ahead of in its T is within it)");
        form("2*2*2*2*x0+2*2*2*2*x1", 3, 3);
        form("2*2*2*2*x0+((((x1))))", 3, 1);
        form("((((x0))))+2*2*2*2*x1", 1, 3);
        form("2*(2*2*x0+2*2*x1)", 8, 8);
        form("(2*2*2*x0+2*2*2*x1)+2*2*2*2*x2", 8, 8, 3);
        form("2*(2*x0+2*x1+(x2)+(x3))", 4, 4, 2, 2);
        form("2*(x0)+((((x1))))", 2, 1);
        form("2*x0+2*x1+2*x2+2*x3+2*x4+2*x0", 0, 2, 2, 2, 2);
        form("(x0)+(x1)+(x2)+(x3)+(x4)+(x0)", 0, 1, 1, 1, 1);
        fault("2*(2*(x0+(x1)))", 9);
        fault("2*(2*(x0+3*x1))", 9);
        fault("2*((x0)+(x1)+(((x2))))", 15);
        form("2*((x0)+(x1)+((x2)))", 2, 2, 2);
        fault("2*(x0)+(((((x1)))))", 11);
        fault("2*2*2*(x0+2*x1)", 10);
    }

    private static void timesAll() {
        CHECK.sentence("C* is C times each");
        form("2*(x0+3*x1+8*x2)", 2, 6, 3);
        form("8*(8*(x0))", 12);
        form("0*(x0+x1+f*x2)");
        form("1*(x0+f*x4)", 1, 0, 0, 0, 15);
        form("f*f*x0", 10);
        RepairGroups x = new RepairGroups();
        x.field(31);
        Check.parity(x, 0, 0, "f*f*x0+2*(8*x1)");
        CHECK.due("f times f by 31", x.of(0, 10), 8);
        CHECK.due("2 times 8 by 31", x.of(0, 11), 15);
    }

    private static void thereYetOrNot() {
        CHECK.sentence("one for each DATA, be it there yet or not");
        RepairGroups x = new RepairGroups();
        CHECK.due("parity, no DATA", Check.parity(x, 0, 0, "x0+2*x1+4*x2+8*x3+3*x4"), 0);
        int[] want = {1, 2, 4, 8, 3};
        int[] symbols = {15, 15, 15, 15, 15};
        int symbol = 0;
        for (int d = 0; d < 5; d++) {
            CHECK.due("number for DATA " + d, x.of(0, 10 + d), want[d]);
            CHECK.due("SYMBOL ahead of DATA " + d, x.of(0, 5), symbol);
            CHECK.due("DATA " + d + " can't be written yet", x.write(d, symbols[d]), -1);
            CHECK.due("data(0, 0)", x.data(0, 0), d + 1);
            CHECK.due("SYMBOL as DATA " + d + " comes", x.of(0, 5), symbol);
            CHECK.due("write(" + d + ", 15)", x.write(d, 15), 0);
            symbol ^= x.calc(1, want[d], 15);
            CHECK.due("SYMBOL by DATA " + d, x.of(0, 5), symbol);
        }
    }

    private static void zeros() {
        CHECK.sentence("a FORM of zeros");
        String[] texts = {"0*x0", "x0+x0", "0*(x0+x1)", "3*x4+2*x4+x4", "0*f*x2"};
        for (String text : texts) {
            form(text);
            RepairGroups x = new RepairGroups();
            Check.parity(x, 0, 0, text);
            x.data(0, 0);
            x.write(0, 15);
            CHECK.due("SYMBOL by " + text, x.of(0, 5), 0);
            CHECK.due("RANK by " + text, x.rank(1), 0);
        }
    }
}
