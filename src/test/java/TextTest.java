/** Promises 5 and 6: feed, parity; and 29 of THE TEXT. */
public final class TextTest {
    private static final Check CHECK = new Check("TextTest");

    public static void main(String[] args) {
        feeding();
        faults();
        forms();
        refusals();
        missingData();
        laterData();
        CHECK.end();
    }

    private static void feeding() {
        RepairGroups x = new RepairGroups();
        CHECK.due("p5: feed(-1)", x.feed(-1), -2);
        CHECK.due("p5: feed(128)", x.feed(128), -2);
        CHECK.due("p5: feed(0)", x.feed(0), 1);
        CHECK.due("p5: feed(127)", x.feed(127), 2);
        for (int n = 3; n <= 100; n++) {
            CHECK.due("p5: sign " + n, x.feed('x'), n);
        }
        CHECK.due("p5: sign 101", x.feed('x'), -4);
        CHECK.due("p5: a bad sign first", x.feed(128), -2);
        CHECK.due("p29: count(5)", x.count(5), 100);
        CHECK.due("p6: fault at sign 0", x.parity(0, 0), -10);
        CHECK.due("p29: count(5) after", x.count(5), 0);
        CHECK.due("p5: from the start again", x.feed('x'), 1);
    }

    private static void fault(String text, int place) {
        RepairGroups x = new RepairGroups();
        Check.feed(x, text);
        CHECK.due("p6: fault of \"" + text + "\"", x.parity(0, 0), -10 - place);
        CHECK.due("p6: text is empty then", x.count(5), 0);
        CHECK.due("p6: no node by a fault", x.count(0), 0);
    }

    private static void faults() {
        fault("", 0);
        fault("x", 1);
        fault("x5", 1);
        fault("x0x1", 2);
        fault("x0)", 2);
        fault("x0+", 3);
        fault("x0++x1", 3);
        fault("+x0", 0);
        fault(" x0", 0);
        fault("x0 ", 2);
        fault("X0", 0);
        fault("g*x0", 0);
        fault("A*x0", 0);
        fault("2x0", 1);
        fault("2", 1);
        fault("2*", 2);
        fault("10*x0", 1);
        fault("(x0", 3);
        fault("(x0+", 4);
        fault("(x0]", 3);
        fault("()", 1);
        fault("x0*2", 2);
        fault("(x0)(x1)", 4);
        fault("(((((x0)))))", 4);
        fault("((((1*x0))))", 4);
        fault("1*2*3*4*5*x0", 8);
        fault("1*2*3*4*(x0)", 8);
        fault("1*2*3*(4*x0)", 7);
        fault("1*(2*(3*x0))", 6);
        fault("1*(2*((x0)))", 6);
        fault("((((x0))))+((((x0)+3", 20);
        fault("((((x0))))+((((x0+3", 18);
        fault("x0\0", 2);
    }

    private static void form(String text, int... numbers) {
        RepairGroups x = new RepairGroups();
        CHECK.due("p6: " + text, Check.parity(x, 0, 0, text), 0);
        for (int d = 0; d < 5; d++) {
            int want = d < numbers.length ? numbers[d] : 0;
            CHECK.due("p8: number for " + d + " in " + text, x.of(0, 10 + d), want);
        }
        CHECK.due("p6: text is empty then", x.count(5), 0);
    }

    private static void forms() {
        form("x0", 1);
        form("x4+x3", 0, 0, 0, 1, 1);
        form("x0+x0", 0);
        form("0*x0+x1", 0, 1);
        form("f*x2", 0, 0, 15);
        form("a*x0+b*x1+c*x2+d*x3+e*x4", 10, 11, 12, 13, 14);
        form("9*(x0+2*x1)", 9, 1);
        form("2*x0+x1", 2, 1);
        form("2*(x0+x1)+x1", 2, 3);
        form("2*4*8*1*x0", 12);
        form("1*(2*(x0+x1))", 2, 2);
        form("((((x0))))+((((x1))))", 1, 1);
        form("2*2*2*2*x0+2*2*2*2*x1", 3, 3);
        form("(2*(2*x0)+x1)+x2", 4, 1, 1);
        StringBuilder longest = new StringBuilder("(x1)+");
        while (longest.length() < 98) {
            longest.append("x0+");
        }
        CHECK.due("p6: 98 signs", longest.length(), 98);
        form(longest + "x0", 0, 1);
    }

    private static void refusals() {
        RepairGroups x = new RepairGroups();
        Check.feed(x, "x0");
        CHECK.due("p6: parity(-1, 10)", x.parity(-1, 10), -1);
        CHECK.due("p6: parity(7, 0)", x.parity(7, 0), -1);
        CHECK.due("p6: parity(0, -1)", x.parity(0, -1), -2);
        CHECK.due("p6: parity(0, 10)", x.parity(0, 10), -2);
        CHECK.due("p6: the text stays", x.count(5), 2);
        CHECK.due("p6: first", x.parity(6, 9), 0);
        for (int n = 1; n < 5; n++) {
            CHECK.due("p6: parity " + n, Check.parity(x, n, n, "x" + n), n);
        }
        Check.feed(x, "x9");
        CHECK.due("p6: kind ahead of full", x.parity(7, 0), -1);
        CHECK.due("p6: v ahead of full", x.parity(0, 10), -2);
        CHECK.due("p6: full ahead of a fault", x.parity(0, 0), -4);
        CHECK.due("p6: the text stays by full", x.count(5), 2);
        CHECK.due("p6: five", x.count(0), 5);
    }

    private static void missingData() {
        RepairGroups x = new RepairGroups();
        x.data(0, 0);
        x.data(0, 0);
        x.lose(1);
        CHECK.due("p6: a missing DATA", Check.parity(x, 0, 0, "x0+x1"), -3);
        CHECK.due("p6: empty by that", x.count(5), 0);
        CHECK.due("p6: none came by that", x.count(0), 2);
        CHECK.due("p6: a fault is first", Check.parity(x, 0, 0, "x1+"), -13);
        CHECK.due("p6: 0 for the missing one", Check.parity(x, 0, 0, "x0+x1+1*x1"), 2);
        CHECK.due("p6: one that has not come", Check.parity(x, 0, 0, "x4"), 3);
    }

    private static void laterData() {
        RepairGroups x = new RepairGroups();
        x.data(0, 0);
        x.write(0, 7);
        CHECK.due("p6: x0+2*x1", Check.parity(x, 0, 0, "x0+2*x1"), 1);
        CHECK.due("p8: by what was written", x.of(1, 5), 7);
        CHECK.due("p8: no HELP for DATA 0 yet", x.of(0, 6), -5);
        x.data(0, 0);
        CHECK.due("p8: as it comes", x.of(1, 5), 7);
        CHECK.due("p9: write(1, 3)", x.write(1, 3), 0);
        CHECK.due("p8: 7 and 2 times 3", x.of(1, 5), 7 ^ 6);
        RepairGroups y = new RepairGroups();
        y.field(25);
        Check.parity(y, 0, 0, "8*2*x0");
        CHECK.due("p6: C is C times by POLY", y.of(0, 10), 9);
    }
}
