/**
 * Long runs of calls, each answered by the program and by the model. The runs are the same each time:
 * their choices come from a counter that is mixed. The first argument tells how many (400, if there is none), the second the first of them.
 */
public final class ModelTest {
    private static final Check CHECK = new Check("ModelTest");
    /** One more move may take some 80 calls, and an object is promised for 512 alone. */
    private static final int CALLS = 430;

    private final StringBuilder told = new StringBuilder();
    private final int run;
    private RepairGroups x = new RepairGroups();
    private Model m = new Model();
    private long state;
    private int nodes;
    private int calls;
    private boolean isSame = true;

    private ModelTest(int run) {
        this.run = run;
        state = run * 0x9E3779B97F4A7C15L + 12345;
    }

    public static void main(String[] args) {
        int runs = args.length > 0 ? Integer.parseInt(args[0]) : 400;
        int first = args.length > 1 ? Integer.parseInt(args[1]) : 0;
        for (int run = first; run < first + runs; run++) {
            new ModelTest(run).play();
        }
        CHECK.end();
    }

    private int pick(int n) {
        state = state * 6364136223846793005L + 1442695040888963407L;
        return (int) Long.remainderUnsigned(state >>> 33, n);
    }

    private boolean once(int n) {
        return pick(n) == 0;
    }

    /** A number of 0 .. n - 1, seldom another. */
    private int some(int n) {
        int[] odd = {-1, -2, n, n + 1, 31, 32, 33, 64, 1024, Integer.MAX_VALUE, Integer.MIN_VALUE};
        return n > 0 && !once(20) ? pick(n) : odd[pick(odd.length)];
    }

    private void play() {
        if (once(3)) {
            int[] polys = {19, 25, 31};
            int poly = polys[pick(3)];
            due("field(" + poly + ")", x.field(poly), m.field(poly));
        }
        int most = pick(11);
        while (calls < CALLS && isSame) {
            nodes = m.count(0);
            int what = pick(100);
            if (what < 12) {
                grow(most);
            } else if (what < 40) {
                change();
            } else if (what < 75) {
                ask();
            } else if (what < 90) {
                tapes();
            } else {
                handTold();
            }
        }
    }

    private void due(String call, long got, long want) {
        calls++;
        told.append(' ').append(call);
        if (told.length() > 3000) {
            told.delete(0, told.length() - 3000);
        }
        if (got != want) {
            isSame = false;
            System.out.println("run " + run + ":" + told);
        }
        CHECK.due("run " + run + ": " + call, got, want);
    }

    private void grow(int most) {
        if (nodes >= most && !once(40)) {
            fields();
            return;
        }
        int kind = some(7);
        int v = some(10);
        if (once(2)) {
            due("data(" + kind + ", " + v + ")", x.data(kind, v), m.data(kind, v));
            return;
        }
        int few = 1 + pick(5);
        String form = once(4) ? signs() : sum(few, 0);
        if (once(8)) {
            form = spoilt(form);
        }
        for (int i = 0; i < form.length(); i++) {
            feed(form.charAt(i));
        }
        due("parity(" + kind + ", " + v + ")", x.parity(kind, v), m.parity(kind, v));
    }

    private void feed(int sign) {
        due("feed(" + sign + ")", x.feed(sign), m.feed(sign));
    }

    private String signs() {
        String all = "xxxxx0123401234+++((()))***af9 ";
        StringBuilder form = new StringBuilder();
        int length = pick(12);
        for (int i = 0; i < length; i++) {
            form.append(all.charAt(pick(all.length())));
        }
        return form.toString();
    }

    private String spoilt(String form) {
        StringBuilder other = new StringBuilder(form);
        int at = pick(other.length() + 1);
        String all = "x0+(*)a5 g\n";
        char sign = all.charAt(pick(all.length()));
        if (once(2) || at == other.length()) {
            other.insert(at, sign);
        } else {
            other.setCharAt(at, sign);
        }
        return other.toString();
    }

    private String sum(int data, int depth) {
        StringBuilder sum = new StringBuilder(term(data, depth));
        while (sum.length() < 60 && !once(3)) {
            sum.append('+').append(term(data, depth));
        }
        return sum.toString();
    }

    private String term(int data, int depth) {
        boolean isDeep = depth >= 4 && !once(30);
        int way = isDeep ? 0 : pick(depth == 0 ? 4 : 5);
        if (way == 1 || way == 2) {
            return "0123456789abcdef".charAt(pick(16)) + "*" + term(data, depth + 1);
        }
        if (way == 3) {
            return "(" + sum(data, depth + 1) + ")";
        }
        return "x" + pick(data);
    }

    private void fields() {
        if (once(2)) {
            int poly = 14 + pick(20);
            due("field(" + poly + ")", x.field(poly), m.field(poly));
            return;
        }
        int what = some(6);
        int a = some(16);
        int b = some(16);
        due("calc(" + what + ", " + a + ", " + b + ")", x.calc(what, a, b), m.calc(what, a, b));
    }

    private void change() {
        int node = some(nodes);
        int[] mayBe = {0, 0, 0, 1, 1, 1, 1, 2, 2, 3, 4};
        switch (mayBe[pick(mayBe.length)]) {
            case 0:
                due("lose(" + node + ")", x.lose(node), m.lose(node));
                break;
            case 1:
                due("repair(" + node + ")", x.repair(node), m.repair(node));
                break;
            case 2:
                int data = some(Math.max(1, m.count(1)));
                int symbol = some(16);
                due("write(" + data + ", " + symbol + ")", x.write(data, symbol), m.write(data, symbol));
                break;
            case 3:
                int part = some(4);
                int n = some(10);
                due("row(" + node + ", " + part + ", " + n + ")", x.row(node, part, n), m.row(node, part, n));
                break;
            default:
                if (once(2)) {
                    due("undo()", x.undo(), m.undo());
                } else if (once(2)) {
                    due("image()", x.image(), m.image());
                } else {
                    due("count(0)", x.count(0), m.count(0));
                }
                break;
        }
    }

    private void ask() {
        int node = some(nodes);
        int e = some(once(2) ? 4 : 11);
        int part = some(2);
        switch (pick(16)) {
            case 0:
            case 1:
            case 2:
            case 3:
                int what = some(15);
                due("of(" + node + ", " + what + ")", x.of(node, what), m.of(node, what));
                break;
            case 4:
            case 5:
            case 6:
                int fact = some(7);
                due("told(" + fact + ")", x.told(fact), m.told(fact));
                break;
            case 7:
                int set = some(Math.max(2, 1 << nodes));
                due("rank(" + set + ")", x.rank(set), m.rank(set));
                break;
            case 8:
                due("safe(" + e + ")", x.safe(e), m.safe(e));
                break;
            case 9:
                due("odds(" + e + ", " + part + ")", x.odds(e, part), m.odds(e, part));
                break;
            case 10:
                due("mean(" + part + ")", x.mean(part), m.mean(part));
                break;
            case 11:
                due("ends(" + part + ")", x.ends(part), m.ends(part));
                break;
            case 12:
                due("looked()", x.looked(), m.looked());
                break;
            case 13:
                askBest(node, e);
                break;
            case 14:
                askWays(node, part);
                break;
            default:
                int k = some(7);
                due("taken(" + node + ", " + k + ")", x.taken(node, k), m.taken(node, k));
                due("count(" + k + ")", x.count(k), m.count(k));
                break;
        }
    }

    /** Dear for the model, so seldom with many NODES. */
    private void askBest(int node, int e) {
        if (nodes > 7 && !once(6)) {
            calls++;
            return;
        }
        int data = some(5);
        due("best(" + node + ", " + data + ", " + e + ")", x.best(node, data, e), m.best(node, data, e));
    }

    private void askWays(int node, int part) {
        if (m.count(1) > 3 && !once(m.count(1) == 4 ? 3 : 12)) {
            calls++;
            return;
        }
        if (once(2)) {
            due("ways(" + part + ")", x.ways(part), m.ways(part));
        } else {
            due("can(" + node + ")", x.can(node), m.can(node));
        }
    }

    private void handTold() {
        if (once(20)) {
            due("see(-1, 0)", x.see(-1, 0), m.see(-1, 0));
            due("book(-1, 0)", x.book(-1, 0), m.book(-1, 0));
            due("plan(-1, 0)", x.plan(-1, 0), m.plan(-1, 0));
        }
        int node = some(nodes);
        int symbol = some(16);
        int symbolNow = m.of(node, 5);
        if (symbolNow >= 0 && !once(3)) {
            symbol = symbolNow;
        }
        if (once(5)) {
            plan(0, node);
            plan(1, node);
            due("ends(0)", x.ends(0), m.ends(0));
            due("ends(1)", x.ends(1), m.ends(1));
            return;
        }
        switch (pick(3)) {
            case 0:
                due("see(" + node + ", " + symbol + ")", x.see(node, symbol), m.see(node, symbol));
                break;
            case 1:
                due("book(" + node + ", " + symbol + ")", x.book(node, symbol), m.book(node, symbol));
                break;
            default:
                plan(some(3), node);
                break;
        }
    }

    private void plan(int what, int node) {
        due("plan(" + what + ", " + node + ")", x.plan(what, node), m.plan(what, node));
    }

    private void tapes() {
        int tape = some(6);
        int i = some(14);
        int j = some(14);
        int n = some(12);
        switch (pick(7)) {
            case 0:
                int sort = once(8) ? -1 : some(5);
                int size = once(9) ? 55 + pick(10) : some(16);
                due("tape(" + tape + ", " + sort + ", " + size + ")", x.tape(tape, sort, size), m.tape(tape, sort, size));
                break;
            case 1:
            case 2:
                long v = value();
                due("item(" + tape + ", " + i + ", " + v + ")", x.item(tape, i, v), m.item(tape, i, v));
                break;
            case 3:
                due("read(" + tape + ", " + i + ")", x.read(tape, i), m.read(tape, i));
                break;
            case 4:
                int other = once(2) ? tape : some(6);
                due("shift(" + tape + ", " + i + ", " + other + ", " + j + ", " + n + ")",
                    x.shift(tape, i, other, j, n), m.shift(tape, i, other, j, n));
                break;
            case 5:
                due("judge(" + tape + ", " + i + ")", x.judge(tape, i), m.judge(tape, i));
                break;
            default:
                told(tape, pick(3));
                break;
        }
    }

    private long value() {
        long[] values = {0, 1, -1, pick(300), -pick(300), 40000, -40000, 70000, 3000000000L, Long.MIN_VALUE, Long.MAX_VALUE};
        return values[pick(values.length)];
    }

    /** A row of the SYMBOLS as they are, seldom spoilt. */
    private void told(int tape, int from) {
        int length = from + nodes - (once(4) ? 1 : 0);
        due("tape(" + tape + ", 0, " + length + ")", x.tape(tape, 0, length), m.tape(tape, 0, length));
        for (int node = 0; node < nodes; node++) {
            int symbol = once(20) ? pick(16) : Math.max(-1, m.of(node, 5));
            due("item(" + tape + ", " + (from + node) + ", " + symbol + ")",
                x.item(tape, from + node, symbol), m.item(tape, from + node, symbol));
        }
        due("judge(" + tape + ", " + from + ")", x.judge(tape, from), m.judge(tape, from));
    }
}
