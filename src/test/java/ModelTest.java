import java.util.Map;
import java.util.TreeMap;

/** Long runs of mixed calls, each answer compared with the one of the plain Model. */
public final class ModelTest {
    private static final int CALLS = 512;
    private static final int[] WILD = {-2, -1, 0, 1, 2, 3, 4, 5, 6, 7, 12, 16, 36, 80, 1000000,
        Integer.MAX_VALUE, Integer.MIN_VALUE, Integer.MIN_VALUE + 1};
    private static final long[] WILD_SETS = {0L, -1L, Long.MIN_VALUE, Long.MAX_VALUE, 1L << 36, (1L << 36) - 1};

    private final Checks checks;
    private final Map<String, Integer> seen;
    private final RowLineage x = new RowLineage();
    private final Model m = new Model();
    private long state;
    private int numbers;
    private int rowsAtMost;

    private ModelTest(Checks checks, Map<String, Integer> seen, long seed) {
        this.checks = checks;
        this.seen = seen;
        state = seed * 0x9E3779B97F4A7C15L + 1;
        numbers = 1 + any(5);
        rowsAtMost = 4 + any(34);
    }

    public static void main(String[] args) {
        Checks checks = new Checks("ModelTest");
        Map<String, Integer> seen = new TreeMap<>();
        int runs = args.length > 0 ? Integer.parseInt(args[0]) : 1500;
        for (int seed = 0; seed < runs && checks.wrong() < 20; seed++) {
            new ModelTest(checks, seen, seed).play();
        }
        System.out.println(seen);
        String[] musts = {"run FULL", "run some", "run none", "count FULL", "count some", "blame FULL", "blame NONE",
            "blame 2+", "matters 0 of its own", "matters 1", "lacks", "ways 12", "tuples over 40"};
        for (String must : musts) {
            checks.due("more than 4 calls that show: " + must, seen.getOrDefault(must, 0) > 4, true);
        }
        checks.end();
    }

    private int any(int below) {
        state ^= state << 13;
        state ^= state >>> 7;
        state ^= state << 17;
        return (int) Math.floorMod(state >>> 11, (long) below);
    }

    /** A number below the given one as a rule, at times one that is no such thing. */
    private int near(int below) {
        if (any(16) == 0) {
            return WILD[any(WILD.length)];
        }
        return below > 0 ? any(below) : 0;
    }

    private int number() {
        if (any(40) == 0) {
            return any(2) == 0 ? Integer.MAX_VALUE - any(2) : Integer.MIN_VALUE + any(2);
        }
        return any(numbers) - 1;
    }

    private void note(String what, boolean happened) {
        if (happened) {
            seen.merge(what, 1, Integer::sum);
        }
    }

    private void due(String call, Object got, Object want) {
        checks.due(call, got, want);
    }

    /** Many like rows in sources of one column: their NOTs have many rows in one TERM. */
    private void crowd() {
        for (int source = 0; source < 4; source++) {
            due("source(1)", x.source(1), m.source(1));
            for (int like = 3 + any(7); like > 0; like--) {
                int number = any(numbers);
                due("row(" + source + ", ..)", x.row(source, number, 0, 0, 0), m.row(source, number, 0, 0, 0));
            }
            due("scan(" + source + ")", x.scan(source), m.scan(source));
        }
        for (int scan = 0; scan < 4; scan++) {
            int last = m.nodes.size() - 1;
            due("minus(" + last + ", " + scan + ")", x.minus(last, scan), m.alike("minus", last, scan));
            due("unite(" + last + ", " + scan + ")", x.unite(last, scan), m.alike("unite", last, scan));
        }
    }

    private void play() {
        if (numbers < 4 && any(3) == 0) {
            crowd();
        }
        for (int call = 0; call < CALLS && checks.wrong() < 20; call++) {
            int kind = any(100);
            if (call < 3) {
                kind = 0;
            } else if (call < 8) {
                kind = 2 + any(8);
            }
            if (kind < 2) {
                int columns = any(8) == 0 ? near(5) : 1 + any(4);
                due("source(" + columns + ")", x.source(columns), m.source(columns));
            } else if (kind < 14) {
                rowCall();
            } else if (kind < 32) {
                nodeCall();
            } else if (kind < 50) {
                runCall();
            } else {
                askCall(kind);
            }
        }
    }

    private void rowCall() {
        if (m.rows.size() >= rowsAtMost && any(10) != 0) {
            return;
        }
        int source = near(m.sources.size());
        int a = number();
        int b = number();
        int c = number();
        int d = number();
        due("row(" + source + ", ..)", x.row(source, a, b, c, d), m.row(source, a, b, c, d));
    }

    private int column(int node) {
        return near(Math.max(m.columns(node), 1));
    }

    private int digits(int node) {
        if (any(12) == 0) {
            return WILD[any(WILD.length)];
        }
        int made = 0;
        for (int more = any(6); more >= 0; more--) {
            made = made * 10 + (any(30) == 0 ? any(10) : 1 + any(Math.max(m.columns(node), 1)));
        }
        return made;
    }

    private void nodeCall() {
        int first = near(m.nodes.size());
        int second = near(m.nodes.size());
        switch (any(8)) {
            case 0, 1 -> {
                int source = near(m.sources.size());
                due("scan(" + source + ")", x.scan(source), m.scan(source));
            }
            case 2 -> {
                int column = column(first);
                int sign = near(3);
                int other = any(2) == 0 ? -1 : column(first);
                int v = number();
                due("pick(" + first + ", " + column + ", " + sign + ", " + other + ", " + v + ")",
                    x.pick(first, column, sign, other, v), m.pick(first, column, sign, other, v));
            }
            case 3 -> {
                int digits = digits(first);
                due("cols(" + first + ", " + digits + ")", x.cols(first, digits), m.cols(first, digits));
            }
            case 4 -> {
                int i = column(first);
                int j = column(second);
                due("join(" + first + ", " + second + ", " + i + ", " + j + ")",
                    x.join(first, second, i, j), m.join(first, second, i, j));
            }
            case 5 -> due("unite(" + first + ", " + second + ")", x.unite(first, second),
                m.alike("unite", first, second));
            case 6 -> due("minus(" + first + ", " + second + ")", x.minus(first, second),
                m.alike("minus", first, second));
            default -> {
                int by = column(first);
                int of = column(first);
                int kind = near(4);
                due("fold(" + first + ", " + by + ", " + of + ", " + kind + ")",
                    x.fold(first, by, of, kind), m.fold(first, by, of, kind));
            }
        }
    }

    private void runCall() {
        int node = near(m.nodes.size());
        int want = m.run(node);
        due("run(" + node + ")", x.run(node), want);
        note("run FULL", want == Model.FULL);
        note("run some", want > 0);
        note("run none", want == 0);
        note("tuples over 40", want > 40);
        due("told(3)", x.told(3), m.tuples.size());
        if (x.told(3) != m.tuples.size()) {
            return;
        }
        for (int t = 0; t < m.tuples.size(); t++) {
            for (int c = 0; c < m.width; c++) {
                due("cell(" + t + ", " + c + ")", Shown.cell(x, t, c), m.cell(t, c));
            }
            due("ways(" + t + ")", x.ways(t), m.ways(t));
            note("ways 12", m.ways(t) == 12);
            for (int k = 0; k < m.ways(t); k++) {
                due("way(" + t + ", " + k + ", 0)", Shown.way(x, t, k, 0), m.way(t, k, 0));
                due("way(" + t + ", " + k + ", 1)", Shown.way(x, t, k, 1), m.way(t, k, 1));
                note("lacks", !m.way(t, k, 1).equals("0"));
            }
        }
    }

    private void askCall(int kind) {
        int t = near(m.tuples.size());
        int row = near(m.rows.size());
        switch (kind % 14) {
            case 0 -> due("columns(" + t + ")", x.columns(t), m.columns(t));
            case 1 -> {
                int column = near(m.width);
                due("cell(" + t + ", " + column + ")", Shown.cell(x, t, column), m.cell(t, column));
            }
            case 2 -> due("ways(" + t + ")", x.ways(t), m.ways(t));
            case 3 -> {
                int k = near(Math.max(m.ways(t), 1));
                int what = near(2);
                due("way(" + t + ", " + k + ", " + what + ")", Shown.way(x, t, k, what), m.way(t, k, what));
            }
            case 4, 5 -> {
                boolean on = any(2) == 0;
                due("drop(" + row + ", " + on + ")", x.drop(row, on), m.drop(row, on));
            }
            case 6 -> due("holds(" + t + ")", x.holds(t), m.holds(t));
            case 7 -> due("made(" + t + ")", x.made(t), m.made(t));
            case 8 -> {
                long set = ((long) any(1 << 30) << 30 | any(1 << 30)) & ((1L << m.rows.size()) - 1);
                set = any(10) == 0 ? WILD_SETS[any(WILD_SETS.length)] : any(10) == 0 ? 1L << any(64) : set;
                due("under(" + t + ", " + set + ")", x.under(t, set), m.under(t, set));
            }
            case 9 -> due("forward(" + row + ")", x.forward(row), m.forward(row));
            case 10 -> {
                due("count(" + t + ")", x.count(t), m.count(t));
                note("count FULL", m.isTuple(t) && Long.bitCount(m.rowsOf(t)) > 16);
                note("count some", m.isTuple(t) && Long.bitCount(m.rowsOf(t)) > 4);
            }
            case 11 -> {
                int want = m.matters(t, row);
                due("matters(" + t + ", " + row + ")", x.matters(t, row), want);
                note("matters 0 of its own", want == 0 && (m.rowsOf(t) >> row & 1) != 0);
                note("matters 1", want == 1);
            }
            case 12 -> {
                int want = m.blame(t);
                due("blame(" + t + ")", x.blame(t), want);
                note("blame FULL", want == Model.FULL);
                note("blame NONE", want == Model.NONE && m.isTuple(t));
                note("blame 2+", want > 1);
            }
            default -> {
                int what = near(6);
                due("told(" + what + ")", x.told(what), m.told(what));
                if (any(60) == 0) {
                    x.clear();
                    m.clear();
                    due("told(1)", x.told(1), 0);
                }
            }
        }
    }
}
