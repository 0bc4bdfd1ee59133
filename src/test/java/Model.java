import java.util.ArrayDeque;
import java.util.ArrayList;
import java.util.Deque;
import java.util.List;

/**
 * The document once more, in its plainest form and without the program's ways: sums are tried,
 * ranks are found by elimination in tables, ways are counted one by one.
 */
final class Model {
    static final int NONE = -1, BAD = -2, STATE = -3, FULL = -4;
    static final long NO = Long.MIN_VALUE;

    private static final class Node implements Cloneable {
        int kind;
        int v;
        int data = -5;
        int reads;
        boolean missing;
        int[] row = new int[4];
        int[] form = new int[5];

        Node copy() {
            Node n = new Node();
            n.kind = kind;
            n.v = v;
            n.data = data;
            n.reads = reads;
            n.missing = missing;
            n.row = row.clone();
            n.form = form.clone();
            return n;
        }
    }

    private int poly = 19;
    private List<Node> nodes = new ArrayList<>();
    private int[] written = new int[5];
    private List<int[]> seen = new ArrayList<>();
    private List<int[]> steps = new ArrayList<>();
    private List<int[]> booked = new ArrayList<>();
    private String text = "";
    private Model taken;
    private final Object[] tapes = new Object[6];

    // ---- the field

    private static int times(int poly, int a, int b) {
        int sum = 0;
        for (int i = 0; i < 4; i++) {
            if ((a >> i & 1) == 1) {
                sum ^= b << i;
            }
        }
        while (sum >= 16) {
            int shift = 27 - Integer.numberOfLeadingZeros(sum);
            sum ^= poly << shift;
        }
        return sum;
    }

    private int times(int a, int b) {
        return times(poly, a, b);
    }

    private int over(int a, int b) {
        for (int q = 0; q < 16; q++) {
            if (times(q, b) == a) {
                return q;
            }
        }
        throw new IllegalStateException("no quotient");
    }

    private static boolean isField(int poly) {
        for (int a = 1; a < 16; a++) {
            boolean some = false;
            for (int b = 0; b < 16; b++) {
                some |= times(poly, a, b) == 1;
            }
            if (!some) {
                return false;
            }
        }
        return true;
    }

    private int generator() {
        for (int g = 0; g < 16; g++) {
            int had = 0;
            int power = 1;
            for (int n = 0; n < 20; n++) {
                had |= 1 << power;
                power = times(power, g);
            }
            if ((had | 1) == 0xFFFF) {
                return g;
            }
        }
        throw new IllegalStateException("no generator");
    }

    private int power(int a, int n) {
        return n == 0 ? 1 : times(a, power(a, n - 1));
    }

    int field(int p) {
        if (p < 16 || p > 31 || !isField(p)) {
            return BAD;
        }
        if (!nodes.isEmpty()) {
            return STATE;
        }
        poly = p;
        return generator();
    }

    private static boolean in(int low, int x, int high) {
        return low <= x && x <= high;
    }

    int calc(int what, int a, int b) {
        if (!in(0, what, 5)) {
            return NONE;
        }
        if (what <= 2 && !(in(0, a, 15) && in(0, b, 15)) || what == 2 && b == 0) {
            return BAD;
        }
        if (what == 3 && !(in(0, a, 15) && in(0, b, 99))) {
            return BAD;
        }
        if (what == 4 && !in(0, a, 14) || what == 5 && !in(1, a, 15)) {
            return BAD;
        }
        if (what == 5) {
            int n = 0;
            while (power(generator(), n) != a) {
                n++;
            }
            return n;
        }
        return what == 0 ? a ^ b : what == 1 ? times(a, b) : what == 2 ? over(a, b)
            : what == 3 ? power(a, b) : power(generator(), a);
    }

    // ---- nodes

    private int dataSize() {
        int n = 0;
        for (Node node : nodes) {
            n += node.data >= 0 ? 1 : 0;
        }
        return n;
    }

    private boolean has(int node) {
        return in(0, node, nodes.size() - 1);
    }

    int data(int kind, int v) {
        if (!in(0, kind, 6)) {
            return NONE;
        }
        if (!in(0, v, 9)) {
            return BAD;
        }
        if (dataSize() == 5) {
            return FULL;
        }
        Node node = new Node();
        node.kind = kind;
        node.v = v;
        node.data = dataSize();
        node.form[node.data] = 1;
        written[node.data] = 0;
        nodes.add(node);
        return nodes.size() - 1;
    }

    int feed(int sign) {
        if (!in(0, sign, 127)) {
            return BAD;
        }
        if (text.length() == 100) {
            return FULL;
        }
        text += (char) sign;
        return text.length();
    }

    /** By a machine with a stack, sign by sign: the FAULT's place, or -1 and the FORM. */
    private int readForm(String s, int[] form) {
        Deque<int[]> open = new ArrayDeque<>();
        int factor = 1;
        int depth = 0;
        char wants = 'T';
        for (int i = 0; i < s.length(); i++) {
            char c = s.charAt(i);
            int hex = "0123456789abcdef".indexOf(c);
            if (wants == 'T' && c == 'x') {
                wants = 'D';
            } else if (wants == 'T' && c == '(' && depth < 4) {
                open.push(new int[] {factor, depth});
                depth++;
                open.push(new int[] {factor, depth});
            } else if (wants == 'T' && hex >= 0 && depth < 4) {
                factor = times(factor, hex);
                wants = '*';
            } else if (wants == '*' && c == '*') {
                depth++;
                wants = 'T';
            } else if (wants == 'D' && c >= '0' && c <= '4') {
                form[c - '0'] ^= factor;
                wants = 'E';
            } else if (wants == 'E' && c == '+') {
                factor = open.isEmpty() ? 1 : open.peek()[0];
                depth = open.isEmpty() ? 0 : open.peek()[1];
                wants = 'T';
            } else if (wants == 'E' && c == ')' && !open.isEmpty()) {
                open.pop();
                open.pop();
            } else {
                return i;
            }
        }
        return wants == 'E' && open.isEmpty() ? -1 : s.length();
    }

    int parity(int kind, int v) {
        if (!in(0, kind, 6)) {
            return NONE;
        }
        if (!in(0, v, 9)) {
            return BAD;
        }
        if (nodes.size() - dataSize() == 5) {
            return FULL;
        }
        Node node = new Node();
        node.kind = kind;
        node.v = v;
        int fault = readForm(text, node.form);
        text = "";
        if (fault >= 0) {
            return -10 - fault;
        }
        for (Node other : nodes) {
            if (other.data >= 0 && other.missing && node.form[other.data] != 0) {
                return STATE;
            }
        }
        nodes.add(node);
        return nodes.size() - 1;
    }

    int row(int node, int part, int n) {
        if (!has(node) || !in(0, part, 3)) {
            return NONE;
        }
        if (!in(0, n, 9)) {
            return BAD;
        }
        if (nodes.get(node).kind != 6) {
            return STATE;
        }
        int was = nodes.get(node).row[part];
        nodes.get(node).row[part] = n;
        return was;
    }

    private int cost(Node n) {
        int plain = n.v + 1;
        int near = plain / 2 < 1 ? 1 : plain / 2;
        int busy = plain + (n.reads > 9 ? 9 : n.reads);
        int[] all = {plain, near, 2 * plain, busy, n.reads % 2 != 0 ? 1 : near,
            2 * plain + (n.data < 0 ? 5 : 0), busy + n.row[n.reads % 4]};
        return all[n.kind];
    }

    private int symbol(Node n) {
        int sum = 0;
        for (int d = 0; d < dataSize(); d++) {
            sum ^= times(n.form[d], written[d]);
        }
        return sum;
    }

    /** RANK of some FORMs, by elimination in a table. */
    private int rankOf(List<int[]> forms) {
        int[][] table = new int[forms.size()][];
        for (int i = 0; i < table.length; i++) {
            table[i] = forms.get(i).clone();
        }
        int rank = 0;
        for (int column = 0; column < 5; column++) {
            int pivot = rank;
            while (pivot < table.length && table[pivot][column] == 0) {
                pivot++;
            }
            if (pivot == table.length) {
                continue;
            }
            int[] row = table[pivot];
            table[pivot] = table[rank];
            table[rank] = row;
            for (int i = rank + 1; i < table.length; i++) {
                int q = over(table[i][column], row[column]);
                for (int c = 0; q != 0 && c < 5; c++) {
                    table[i][c] ^= times(q, row[c]);
                }
            }
            rank++;
        }
        return rank;
    }

    private List<int[]> forms(int set) {
        List<int[]> forms = new ArrayList<>();
        for (int i = 0; i < nodes.size(); i++) {
            if ((set >> i & 1) == 1) {
                forms.add(nodes.get(i).form);
            }
        }
        return forms;
    }

    private boolean tells(int set, int told) {
        List<int[]> forms = forms(set);
        int rank = rankOf(forms);
        forms.addAll(forms(told));
        return rankOf(forms) == rank;
    }

    private int everyone() {
        return (1 << nodes.size()) - 1;
    }

    private int missing() {
        int set = 0;
        for (int i = 0; i < nodes.size(); i++) {
            set |= nodes.get(i).missing ? 1 << i : 0;
        }
        return set;
    }

    private int dataSet() {
        int set = 0;
        for (int i = 0; i < nodes.size(); i++) {
            set |= nodes.get(i).data >= 0 ? 1 << i : 0;
        }
        return set;
    }

    private int costs(int set) {
        int sum = 0;
        for (int i = 0; i < nodes.size(); i++) {
            sum += (set >> i & 1) == 1 ? cost(nodes.get(i)) : 0;
        }
        return sum;
    }

    private int help(int node) {
        int help = -5;
        for (int set = 0; set <= everyone(); set++) {
            boolean may = (set & missing()) == 0 && (set >> node & 1) == 0;
            if (may && (help == -5 || costs(set) < costs(help)) && tells(set, 1 << node)) {
                help = set;
            }
        }
        return help;
    }

    private int local(int node) {
        for (int size = 0; size < nodes.size(); size++) {
            for (int set = 0; set <= everyone(); set++) {
                if (Integer.bitCount(set) == size && (set >> node & 1) == 0 && tells(set, 1 << node)) {
                    return size;
                }
            }
        }
        return -5;
    }

    int of(int node, int what) {
        if (!has(node) || !in(0, what, 14) || what == 9) {
            return NONE;
        }
        Node n = nodes.get(node);
        if (what >= 10) {
            return n.form[what - 10];
        }
        switch (what) {
            case 0:
                return n.kind;
            case 1:
                return n.v;
            case 2:
                return n.data;
            case 3:
                return n.reads;
            case 4:
                return cost(n);
            case 5:
                return n.missing ? -5 : symbol(n);
            case 6:
                return help(node);
            case 7:
                return help(node) == -5 ? -5 : costs(help(node));
            default:
                return local(node);
        }
    }

    private Node nodeOf(int data) {
        for (Node node : nodes) {
            if (node.data == data) {
                return node;
            }
        }
        return null;
    }

    int write(int data, int symbol) {
        if (data < 0 || nodeOf(data) == null) {
            return NONE;
        }
        if (!in(0, symbol, 15)) {
            return BAD;
        }
        if (nodeOf(data).missing) {
            return STATE;
        }
        int was = written[data];
        written[data] = symbol;
        return was;
    }

    int lose(int node) {
        if (!has(node)) {
            return NONE;
        }
        if (nodes.get(node).missing) {
            return STATE;
        }
        nodes.get(node).missing = true;
        return symbol(nodes.get(node));
    }

    private void read(int set) {
        for (int i = 0; i < nodes.size(); i++) {
            if ((set >> i & 1) == 1) {
                nodes.get(i).reads++;
            }
        }
    }

    int repair(int node) {
        if (!has(node)) {
            return NONE;
        }
        Node n = nodes.get(node);
        if (!n.missing || help(node) == -5) {
            return STATE;
        }
        read(help(node));
        n.missing = false;
        return symbol(n);
    }

    // ---- what tells what

    int told(int what) {
        int there = everyone() & ~missing();
        switch (what) {
            case 0:
                return poly;
            case 1:
                return generator();
            case 2:
                return missing();
            case 3:
                int set = 0;
                for (int i = 0; i < nodes.size(); i++) {
                    set |= nodes.get(i).missing && tells(there, 1 << i) ? 1 << i : 0;
                }
                return set;
            case 4:
                return rankOf(forms(there));
            case 5:
                return tells(there, dataSet()) ? 1 : 0;
            case 6:
                return distance();
            default:
                return NONE;
        }
    }

    private int[] safeAndAll(int e) {
        int[] found = new int[2];
        for (int lost = 0; lost <= everyone(); lost++) {
            if (Integer.bitCount(lost) == e) {
                found[1]++;
                found[0] += tells(everyone() & ~lost, dataSet()) ? 1 : 0;
            }
        }
        return found;
    }

    private int distance() {
        if (dataSize() == 0) {
            return -5;
        }
        int e = 0;
        while (safeAndAll(e)[0] == safeAndAll(e)[1]) {
            e++;
        }
        return e;
    }

    int rank(int set) {
        return set < 0 || (set & ~everyone()) != 0 ? NONE : rankOf(forms(set));
    }

    int safe(int e) {
        return in(0, e, 10) ? safeAndAll(e)[0] : BAD;
    }

    int best(int node, int data, int e) {
        if (!has(node) || nodes.get(node).data >= 0 || !in(0, data, 4)) {
            return NONE;
        }
        if (!in(0, e, 10)) {
            return BAD;
        }
        int[] form = nodes.get(node).form;
        int was = form[data];
        int best = 0;
        int most = -1;
        for (int c = 0; c < 16; c++) {
            form[data] = c;
            int safe = safe(e);
            if (safe > most) {
                most = safe;
                best = c;
            }
        }
        form[data] = was;
        return best;
    }

    // ---- seen, odds

    private int tell(List<int[]> rows, int most, int node, int symbol) {
        if (node == -1) {
            rows.clear();
            return 0;
        }
        if (!has(node)) {
            return NONE;
        }
        if (!in(0, symbol, 15)) {
            return BAD;
        }
        if (rows.size() == most) {
            return FULL;
        }
        rows.add(new int[] {node, symbol});
        return rows.size();
    }

    int see(int node, int symbol) {
        return tell(seen, 5, node, symbol);
    }

    /** All ways, one by one: how many, the least (or NO), and the SYMBOLS of a node in them. */
    private long[] tryWays(int node) {
        int[] before = written.clone();
        long[] found = {0, NO, 0};
        int n = dataSize();
        for (int way = 0; way < 1 << 4 * n; way++) {
            for (int d = 0; d < n; d++) {
                written[d] = way >> 4 * (n - 1 - d) & 15;
            }
            boolean fits = true;
            for (int[] row : seen) {
                fits = fits && symbol(nodes.get(row[0])) == row[1];
            }
            if (fits) {
                found[0]++;
                found[1] = found[1] == NO ? way : found[1];
                found[2] |= has(node) ? 1 << symbol(nodes.get(node)) : 0;
            }
        }
        written = before;
        return found;
    }

    long ways(int what) {
        return in(0, what, 1) ? tryWays(-1)[what] : NO;
    }

    int can(int node) {
        return has(node) ? (int) tryWays(node)[2] : NONE;
    }

    private static long lowest(long above, long below, int part) {
        for (long m = below; m > 1; m--) {
            if (above % m == 0 && below % m == 0) {
                return (part == 0 ? above : below) / m;
            }
        }
        return part == 0 ? above : below;
    }

    long odds(int e, int part) {
        if (!in(0, e, 10) || !in(0, part, 1) || safeAndAll(e)[1] == 0) {
            return NO;
        }
        return lowest(safeAndAll(e)[0], safeAndAll(e)[1], part);
    }

    long mean(int part) {
        long sum = 0;
        long some = 0;
        for (int i = 0; in(0, part, 1) && i < nodes.size(); i++) {
            int help = help(i);
            sum += help == -5 ? 0 : costs(help);
            some += help == -5 ? 0 : 1;
        }
        return some == 0 ? NO : lowest(sum, some, part);
    }

    // ---- plans, books

    int plan(int what, int node) {
        if (what == -1) {
            steps.clear();
            return 0;
        }
        if (!in(0, what, 2) || !has(node)) {
            return NONE;
        }
        if (steps.size() == 10) {
            return FULL;
        }
        steps.add(new int[] {what, node});
        return steps.size();
    }

    int ends(int what) {
        if (!in(0, what, 1)) {
            return NONE;
        }
        Model trial = copy();
        int costs = 0;
        for (int[] step : steps) {
            Node n = trial.nodes.get(step[1]);
            if (step[0] == 0) {
                n.missing = true;
            } else if (step[0] == 2) {
                n.v = 0;
            } else if (n.missing && trial.help(step[1]) != -5) {
                costs += trial.costs(trial.help(step[1]));
                trial.repair(step[1]);
            }
        }
        return what == 0 ? trial.missing() : costs;
    }

    int book(int node, int symbol) {
        return tell(booked, 8, node, symbol);
    }

    int looked() {
        for (int i = 0; i < booked.size(); i++) {
            Node n = nodes.get(booked.get(i)[0]);
            if (n.missing || symbol(n) != booked.get(i)[1]) {
                return i;
            }
        }
        return -5;
    }

    // ---- judging, the image, tapes

    int judge(int tape, int i) {
        if (!in(0, tape, 5)) {
            return NONE;
        }
        if (tapes[tape] != null && !(tapes[tape] instanceof byte[])) {
            return -12;
        }
        byte[] bytes = tapes[tape] == null ? new byte[0] : (byte[]) tapes[tape];
        for (int k = 0; k < nodes.size(); k++) {
            long at = (long) i + k;
            if (i < 0 || at >= bytes.length) {
                return 100 + k;
            }
            if (bytes[(int) at] != (nodes.get(k).missing ? -1 : symbol(nodes.get(k)))) {
                return k;
            }
        }
        return -5;
    }

    private static List<int[]> copyRows(List<int[]> rows) {
        List<int[]> copy = new ArrayList<>();
        for (int[] row : rows) {
            copy.add(row.clone());
        }
        return copy;
    }

    private Model copy() {
        Model m = new Model();
        m.poly = poly;
        m.take(this);
        return m;
    }

    private void take(Model other) {
        nodes = new ArrayList<>();
        for (Node node : other.nodes) {
            nodes.add(node.copy());
        }
        written = other.written.clone();
        seen = copyRows(other.seen);
        steps = copyRows(other.steps);
        booked = copyRows(other.booked);
    }

    int image() {
        taken = copy();
        return nodes.size();
    }

    int undo() {
        if (taken == null) {
            return STATE;
        }
        take(taken);
        return nodes.size();
    }

    int taken(int node, int k) {
        if (!in(0, k, 6)) {
            return BAD;
        }
        if (!has(node)) {
            return -11;
        }
        int kind = nodes.get(node).kind;
        boolean under = k == 0 || k == kind || kind - k == 3 && k >= 1;
        return under ? kind : -12;
    }

    int count(int what) {
        int[] all = {nodes.size(), dataSize(), seen.size(), steps.size(), booked.size(), text.length()};
        return in(0, what, 5) ? all[what] : BAD;
    }

    int tape(int tape, int sort, int n) {
        if (!in(0, tape, 5)) {
            return NONE;
        }
        if (sort == -1) {
            tapes[tape] = null;
            return 1;
        }
        if (!in(0, sort, 4) || n > 60) {
            return BAD;
        }
        if (n < 0) {
            return -14;
        }
        tapes[tape] = sort == 0 ? new byte[n] : sort == 1 ? new short[n] : sort == 2 ? new int[n]
            : sort == 3 ? new long[n] : (Object) new boolean[n];
        return 1;
    }

    private int sizeOf(int tape) {
        return java.lang.reflect.Array.getLength(tapes[tape]);
    }

    int item(int tape, int i, long v) {
        if (!in(0, tape, 5)) {
            return NONE;
        }
        if (tapes[tape] == null) {
            return -11;
        }
        if (!in(0, i, sizeOf(tape) - 1)) {
            return -13;
        }
        Object row = tapes[tape];
        if (row instanceof byte[]) {
            ((byte[]) row)[i] = (byte) v;
        } else if (row instanceof short[]) {
            ((short[]) row)[i] = (short) v;
        } else if (row instanceof int[]) {
            ((int[]) row)[i] = (int) v;
        } else if (row instanceof long[]) {
            ((long[]) row)[i] = v;
        } else {
            ((boolean[]) row)[i] = v != 0;
        }
        return 1;
    }

    long read(int tape, int i) {
        if (!in(0, tape, 5) || tapes[tape] == null || !in(0, i, sizeOf(tape) - 1)) {
            return NO;
        }
        if (tapes[tape] instanceof boolean[]) {
            return ((boolean[]) tapes[tape])[i] ? 1 : 0;
        }
        return java.lang.reflect.Array.getLong(tapes[tape], i);
    }

    int shift(int tape, int i, int other, int j, int n) {
        if (!in(0, tape, 5) || !in(0, other, 5)) {
            return NONE;
        }
        if (tapes[tape] == null || tapes[other] == null) {
            return -11;
        }
        if (tapes[tape].getClass() != tapes[other].getClass()) {
            return -12;
        }
        if (n < 0 || i < 0 || j < 0 || (long) i + n > sizeOf(tape) || (long) j + n > sizeOf(other)) {
            return -13;
        }
        System.arraycopy(tapes[tape], i, tapes[other], j, n);
        return n;
    }
}
