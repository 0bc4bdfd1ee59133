/** Promises 16 to 20: see, ways, can, odds, mean. */
public final class SeenTest {
    private static final Check CHECK = new Check("SeenTest");
    private static final long NO = Long.MIN_VALUE;

    public static void main(String[] args) {
        seeing();
        waysOfNothing();
        waysOfData();
        leastOfWays();
        waysAhead();
        byMissing();
        odds();
        means();
        CHECK.end();
    }

    private static void seeing() {
        RepairGroups x = new RepairGroups();
        CHECK.due("p16: no node", x.see(0, 99), -1);
        x.data(0, 0);
        CHECK.due("p16: symbol above", x.see(0, 16), -2);
        CHECK.due("p16: symbol below", x.see(0, -1), -2);
        CHECK.due("p16: node -2", x.see(-2, 0), -1);
        for (int n = 1; n <= 5; n++) {
            CHECK.due("p16: row " + n, x.see(0, 15), n);
        }
        CHECK.due("p16: full", x.see(0, 15), -4);
        CHECK.due("p16: node ahead of full", x.see(1, 15), -1);
        CHECK.due("p16: symbol ahead of full", x.see(0, 16), -2);
        CHECK.due("p29: count(2)", x.count(2), 5);
        CHECK.due("p16: none then", x.see(-1, 99), 0);
        CHECK.due("p29: count(2) then", x.count(2), 0);
        CHECK.due("p17: all ways again", x.ways(0), 16);
    }

    private static void waysOfNothing() {
        RepairGroups x = new RepairGroups();
        CHECK.due("p17: the empty way", x.ways(0), 1);
        CHECK.due("p17: is 0", x.ways(1), 0);
        CHECK.due("p17: ways(2)", x.ways(2), NO);
        CHECK.due("p17: ways(-1)", x.ways(-1), NO);
        CHECK.due("p18: no node", x.can(0), -1);
        CHECK.due("p18: node -1", x.can(-1), -1);
        Check.parity(x, 0, 0, "x0");
        CHECK.due("p18: DATA that hasn't come is 0", x.can(0), 1);
        x.see(0, 0);
        CHECK.due("p17: seen 0", x.ways(0), 1);
        x.see(0, 3);
        CHECK.due("p17: seen 3 of 0", x.ways(0), 0);
        CHECK.due("p17: no least", x.ways(1), NO);
        CHECK.due("p18: nothing can be", x.can(0), 0);
    }

    private static void waysOfData() {
        RepairGroups x = new RepairGroups();
        long all = 1;
        for (int d = 0; d < 5; d++) {
            x.data(0, 0);
            all *= 16;
            CHECK.due("p17: of " + (d + 1), x.ways(0), all);
            CHECK.due("p17: the least of " + (d + 1), x.ways(1), 0);
        }
        CHECK.due("p18: any", x.can(4), 65535);
        x.see(4, 15);
        CHECK.due("p17: DATA 4 seen", x.ways(0), 65536);
        CHECK.due("p17: 15 at its place", x.ways(1), 15);
        CHECK.due("p18: one", x.can(4), 1 << 15);
        CHECK.due("p18: others any", x.can(3), 65535);
        x.see(0, 15);
        CHECK.due("p17: the greatest least", x.ways(1), 15 * 65536 + 15);
        x.see(4, 15);
        CHECK.due("p17: again is no matter", x.ways(0), 4096);
        x.see(4, 14);
        CHECK.due("p17: both can't be", x.ways(0), 0);
    }

    /** x0 + 2 x1 = 6: by x0 = 0 x1 is 3; then 16 times 0 and 3. */
    private static void leastOfWays() {
        RepairGroups x = new RepairGroups();
        x.data(0, 0);
        x.data(0, 0);
        Check.parity(x, 0, 0, "x0+2*x1");
        Check.parity(x, 0, 0, "3*x0+6*x1");
        Check.parity(x, 0, 0, "x0+x1");
        x.see(2, 6);
        CHECK.due("p17: ways", x.ways(0), 16);
        CHECK.due("p17: least", x.ways(1), 3);
        CHECK.due("p18: x0", x.can(0), 65535);
        CHECK.due("p18: itself", x.can(2), 1 << 6);
        CHECK.due("p18: 3 times that", x.can(3), 1 << 10);
        CHECK.due("p18: another sum", x.can(4), 65535);
        x.see(3, 10);
        CHECK.due("p17: nothing new", x.ways(0), 16);
        x.see(4, 5);
        CHECK.due("p17: one way", x.ways(0), 1);
        CHECK.due("p17: x1 = (6+5)/3, x0 = x1+5", x.ways(1), 16 * 4 + 1);
        CHECK.due("p18: x0 is 4", x.can(0), 16);
        CHECK.due("p18: x1 is 1", x.can(1), 2);
        x.see(3, 11);
        CHECK.due("p17: no way", x.ways(0), 0);
        CHECK.due("p17: no least", x.ways(1), NO);
        CHECK.due("p18: none", x.can(1), 0);
    }

    /** What is SEEN of a sum over DATA that comes later. */
    private static void waysAhead() {
        RepairGroups x = new RepairGroups();
        Check.parity(x, 0, 0, "x0+x1");
        x.data(0, 0);
        x.see(0, 9);
        CHECK.due("p17: x1 is 0", x.ways(0), 1);
        CHECK.due("p17: x0 is 9", x.ways(1), 9);
        CHECK.due("p18: one", x.can(1), 512);
        x.data(0, 0);
        CHECK.due("p17: x1 has come", x.ways(0), 16);
        CHECK.due("p17: by x0 = 0", x.ways(1), 9);
        CHECK.due("p18: any", x.can(1), 65535);
    }

    /** What is told by hand has nothing to do with what the DATA were written, or with who is MISSING. */
    private static void byMissing() {
        RepairGroups x = new RepairGroups();
        x.data(0, 0);
        x.write(0, 5);
        x.lose(0);
        CHECK.due("p16: a MISSING one", x.see(0, 9), 1);
        CHECK.due("p17: by hand", x.ways(1), 9);
        CHECK.due("p18: by hand", x.can(0), 512);
    }

    private static void odds() {
        RepairGroups x = new RepairGroups();
        CHECK.due("p19: the empty set", x.odds(0, 0), 1);
        CHECK.due("p19: the only one", x.odds(0, 1), 1);
        CHECK.due("p19: no sets", x.odds(1, 0), NO);
        x.data(0, 0);
        x.data(0, 0);
        Check.parity(x, 0, 0, "x0+x1");
        Check.parity(x, 0, 0, "x0+x1");
        CHECK.due("p19: 4 of 4", x.odds(1, 0), 1);
        CHECK.due("p19: 4 of 4 below", x.odds(1, 1), 1);
        CHECK.due("p19: 5 of 6", x.odds(2, 0), 5);
        CHECK.due("p19: 5 of 6 below", x.odds(2, 1), 6);
        CHECK.due("p19: 0 of 4", x.odds(3, 0), 0);
        CHECK.due("p19: 0 of 4 below", x.odds(3, 1), 1);
        CHECK.due("p19: more than there are", x.odds(5, 0), NO);
        CHECK.due("p19: part 2", x.odds(1, 2), NO);
        CHECK.due("p19: part -1", x.odds(1, -1), NO);
        CHECK.due("p19: e -1", x.odds(-1, 0), NO);
        CHECK.due("p19: e 11", x.odds(11, 0), NO);
        RepairGroups y = new RepairGroups();
        y.data(0, 0);
        Check.parity(y, 0, 0, "x1");
        CHECK.due("p19: 1 of 2", y.odds(1, 0), 1);
        CHECK.due("p19: 1 of 2 below", y.odds(1, 1), 2);
        Check.parity(y, 0, 0, "x1");
        Check.parity(y, 0, 0, "x1");
        CHECK.due("p19: 3 of 6", y.odds(2, 0), 1);
        CHECK.due("p19: 3 of 6 below", y.odds(2, 1), 2);
    }

    private static void means() {
        RepairGroups x = new RepairGroups();
        CHECK.due("p20: none", x.mean(0), NO);
        x.data(0, 4);
        CHECK.due("p20: none has HELP", x.mean(1), NO);
        x.data(0, 0);
        CHECK.due("p20: none of both", x.mean(0), NO);
        Check.parity(x, 0, 2, "x0+x1");
        CHECK.due("p20: 4 and 8 and 6 by 3", x.mean(0), 6);
        CHECK.due("p20: below", x.mean(1), 1);
        Check.parity(x, 0, 0, "x4");
        CHECK.due("p20: that has none", x.mean(1), 1);
        CHECK.due("p20: part 2", x.mean(2), NO);
        CHECK.due("p20: part -1", x.mean(-1), NO);
        x.lose(0);
        CHECK.due("p20: only the MISSING one has HELP", x.mean(0), 4);
        Check.parity(x, 0, 0, "0*x0");
        CHECK.due("p20: one by none: 4 by 2", x.mean(0), 2);
        RepairGroups y = new RepairGroups();
        Check.parity(y, 0, 0, "0*x0");
        CHECK.due("p20: 0 by 1", y.mean(0), 0);
        CHECK.due("p20: 0 by 1 below", y.mean(1), 1);
        RepairGroups z = new RepairGroups();
        z.data(0, 0);
        Check.parity(z, 0, 1, "x0");
        CHECK.due("p20: 3 by 2", z.mean(0), 3);
        CHECK.due("p20: 3 by 2 below", z.mean(1), 2);
    }
}
