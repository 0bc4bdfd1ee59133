/** The document's words on THE TEXT, the FORM read from it, and its FAULT. */
final class DocForms {
    private final Doc doc;
    private final Check check;

    DocForms(Doc doc) {
        this.doc = doc;
        check = doc.check;
    }

    void all() {
        bytes();
        grammar();
        means();
        blanks();
        depth();
        faults();
    }

    /** Five numbers. */
    private void form(String text, int... want) {
        RepairGroups x = new RepairGroups();
        check.due(text, Check.parity(x, 0, 0, text), 0);
        for (int d = 0; d < 5; d++) {
            check.due("number for DATA " + d + " by " + text, x.of(0, 10 + d), want[d]);
        }
    }

    private void fault(String text, int place) {
        check.due("\"" + text + "\"", Check.parity(new RepairGroups(), 0, 0, text), -10 - place);
    }

    private void bytes() {
        doc.says("A FORM is read from THE TEXT (bytes, 100 at most).");
        RepairGroups x = new RepairGroups();
        for (int n = 1; n <= 100; n++) {
            check.due("sign " + n, x.feed(n == 1 ? 'x' : n == 2 ? '3' : n % 3 == 0 ? '+' : n % 3 == 1 ? 'x' : '1'), n);
        }
        check.due("one more", x.feed('x'), -4);
        check.due("ends with an x", x.parity(0, 0), -110);
        form("x3+x1", 0, 1, 0, 1, 0);
    }

    private void grammar() {
        doc.says("E: T or T+E.");
        form("x0", 1, 0, 0, 0, 0);
        form("x0+x1+x4", 1, 1, 0, 0, 1);
        fault("+x0", 0);
        fault("x0++x1", 3);
        fault("x0x1", 2);
        doc.says("T: F, or C*T.");
        form("3*x0", 3, 0, 0, 0, 0);
        form("2*3*x1", 0, 6, 0, 0, 0);
        fault("*x0", 0);
        fault("3x0", 1);
        fault("x0*3", 2);
        doc.says("F: xn (n a digit 0 .. 4), or (E).");
        form("(x2)", 0, 0, 1, 0, 0);
        form("(x2+x3)+x0", 1, 0, 1, 1, 0);
        fault("x5", 1);
        fault("x", 1);
        fault("()", 1);
        fault("(x0))", 4);
        doc.says("C: 0 .. 9 or a .. f (10 .. 15).");
        for (int c = 0; c <= 15; c++) {
            form("0123456789abcdef".charAt(c) + "*x2", 0, 0, c, 0, 0);
        }
        fault("g*x2", 0);
        fault("A*x2", 0);
        fault("10*x2", 1);
    }

    private void means() {
        doc.says("xn: 1 for DATA n, 0 for others; + sums, C* is C times each.");
        form("x4", 0, 0, 0, 0, 1);
        form("x0+x0", 0, 0, 0, 0, 0);
        form("5*x1+3*x1", 0, 6, 0, 0, 0);
        form("2*(x0+x1)+x1", 2, 3, 0, 0, 0);
        form("a*(3*x0+x4)", 13, 0, 0, 0, 10);
        form("2*x0+x1", 2, 1, 0, 0, 0);
        form("6*(x0+4*(x1+x2))", 6, 11, 11, 0, 0);
        form("0*(x0+x1)", 0, 0, 0, 0, 0);
    }

    private void blanks() {
        doc.says("No blanks.");
        fault(" x0", 0);
        fault("x 0", 1);
        fault("x0 +x1", 2);
        fault("x0 ", 2);
        fault("2 *x0", 1);
        fault("x0\n", 2);
    }

    private void depth() {
        doc.says("A ( or * within 4 others of these is none (all that a * stands ahead of in its T is within it).");
        form("((((x0))))", 1, 0, 0, 0, 0);
        fault("(((((x0)))))", 4);
        form("2*2*2*2*x0", 3, 0, 0, 0, 0);
        fault("2*2*2*2*2*x0", 8);
        form("2*(2*(x0))", 4, 0, 0, 0, 0);
        fault("2*(2*((x0)))", 6);
        fault("2*(2*(3*x0))", 6);
        form("2*2*2*2*x0+2*2*2*2*x1", 3, 3, 0, 0, 0);
        form("(((2*x0+2*x1)+2*x2)+2*x3)", 2, 2, 2, 2, 0);
        form("2*2*(x0+2*x1)", 4, 8, 0, 0, 0);
        fault("2*2*(x0+2*(x1))", 10);
        fault("2*2*(x0+2*x1)+(((((x0", 18);
    }

    private void faults() {
        doc.says("The FAULT: the place of the first byte with which none begins so (the end of THE TEXT, if it ends too early).");
        fault("", 0);
        fault("?", 0);
        fault("x0?", 2);
        fault("x0+", 3);
        fault("x0+(x1+", 7);
        fault("(x0", 3);
        fault("2", 1);
        fault("2*", 2);
        fault("x0+2*x1)", 7);
        fault("x0+x9+x7", 4);
    }
}
