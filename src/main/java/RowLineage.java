/** Which ROWS made a row: queries over numbered rows, with the WAYS in which each TUPLE comes. */
public final class RowLineage {
    public static final int NONE = -1, BAD = -2, FULL = -4, STATE = -5;

    private static final int MOST_SOURCES = 4;
    private static final int MOST_SOURCE_COLUMNS = 4;
    private static final int MOST_ROWS = 36;
    private static final int MOST_NODES = 16;
    private static final int MOST_COLUMNS = 6;
    private static final int MOST_TERMS = 12;
    private static final int MOST_TUPLES = 80;
    private static final int MOST_IN_GROUP = 4;
    private static final int MOST_COUNTED_ROWS = 16;
    private static final int MOST_DIGITS = 999999;
    private static final int FOLD_COLUMNS = 2;

    private static final int SCAN = 0, PICK = 1, COLS = 2, JOIN = 3, UNITE = 4, MINUS = 5, FOLD = 6;
    private static final int BELOW = 0, LIKE = 1, ABOVE = 2;
    private static final int HOW_MANY = 0, SUM = 1, LEAST = 2, GREATEST = 3;
    private static final int UNKNOWN = 0, GIVEN = 1, OVERFULL = 2;

    private final Sources sources = new Sources();
    private final Operators operators = new Operators();
    private final Node[] nodes = new Node[MOST_NODES];
    private final Table[] tables = new Table[MOST_NODES];
    private final Table nothing = new Table(0);
    private final Ways blind = new Ways();
    private int nodeCount;
    private int result;
    private long present;

    public RowLineage() {
        result = NONE;
    }

    public int source(int columns) {
        if (columns < 1 || columns > MOST_SOURCE_COLUMNS) {
            return BAD;
        }
        return sources.sourceCount >= MOST_SOURCES ? FULL : sources.addSource(columns);
    }

    public int row(int source, int a, int b, int c, int d) {
        if (!sources.isSource(source)) {
            return NONE;
        }
        if (sources.rowCount >= MOST_ROWS) {
            return FULL;
        }
        int added = sources.addRow(source, a, b, c, d);
        present |= 1L << added;
        forgetWhatNodesGave();
        return added;
    }

    public int scan(int source) {
        if (!sources.isSource(source)) {
            return NONE;
        }
        if (nodeCount >= MOST_NODES) {
            return FULL;
        }
        openNode(SCAN, sources.widths[source], NONE, NONE).detail(NONE, NONE, 0, source);
        return nodeCount++;
    }

    public int pick(int node, int column, int sign, int other, int v) {
        if (!hasColumn(node, column) || (other != NONE && !hasColumn(node, other))) {
            return NONE;
        }
        if (sign < BELOW || sign > ABOVE) {
            return BAD;
        }
        if (nodeCount >= MOST_NODES) {
            return FULL;
        }
        openNode(PICK, nodes[node].width, node, NONE).detail(column, other, sign, v);
        return nodeCount++;
    }

    public int cols(int node, int digits) {
        if (!isNode(node)) {
            return NONE;
        }
        if (digits < 1 || digits > MOST_DIGITS || leastDigit(digits) == 0) {
            return BAD;
        }
        if (greatestDigit(digits) > nodes[node].width) {
            return NONE;
        }
        if (nodeCount >= MOST_NODES) {
            return FULL;
        }
        openNode(COLS, digitCount(digits), node, NONE).detail(NONE, NONE, 0, digits);
        return nodeCount++;
    }

    public int join(int first, int second, int i, int j) {
        if (!hasColumn(first, i) || !hasColumn(second, j)) {
            return NONE;
        }
        int width = nodes[first].width + nodes[second].width;
        if (width > MOST_COLUMNS) {
            return BAD;
        }
        if (nodeCount >= MOST_NODES) {
            return FULL;
        }
        openNode(JOIN, width, first, second).detail(i, j, 0, 0);
        return nodeCount++;
    }

    public int unite(int first, int second) {
        return addAlikeNode(UNITE, first, second);
    }

    public int minus(int first, int second) {
        return addAlikeNode(MINUS, first, second);
    }

    public int fold(int node, int by, int of, int kind) {
        if (!hasColumn(node, by) || !hasColumn(node, of)) {
            return NONE;
        }
        if (kind < HOW_MANY || kind > GREATEST) {
            return BAD;
        }
        if (nodeCount >= MOST_NODES) {
            return FULL;
        }
        openNode(FOLD, FOLD_COLUMNS, node, NONE).detail(by, of, kind, 0);
        return nodeCount++;
    }

    public int columns(int node) {
        return isNode(node) ? nodes[node].width : NONE;
    }

    public int run(int node) {
        if (!isNode(node)) {
            return NONE;
        }
        long needed = neededNodes(node);
        for (int n = 0; n <= node; n++) {
            Node next = nodes[n];
            boolean isNeeded = (needed >> n & 1L) != 0;
            if (isNeeded && next.state == UNKNOWN) {
                Table first = tableOf(next.first);
                Table second = tableOf(next.second);
                next.state = operators.fill(next, sources, first, second, tables[n]) ? GIVEN : OVERFULL;
            }
            if (isNeeded && next.state == OVERFULL) {
                return FULL;
            }
        }
        result = node;
        return tables[node].size;
    }

    public int cell(int t, int column) throws IndexOutOfBoundsException {
        Tuple tuple = resultTuple(t);
        if (tuple == null) {
            throw new IndexOutOfBoundsException("no such tuple");
        }
        if (column < 0 || column >= tableOf(result).width) {
            throw new IndexOutOfBoundsException("no such column");
        }
        return tuple.cells[column];
    }

    public int ways(int t) {
        Tuple tuple = resultTuple(t);
        return tuple == null ? NONE : tuple.ways.size;
    }

    public long way(int t, int k, int what) throws IndexOutOfBoundsException, IllegalArgumentException {
        Tuple tuple = resultTuple(t);
        if (tuple == null) {
            throw new IndexOutOfBoundsException("no such tuple");
        }
        if (k < 0 || k >= tuple.ways.size) {
            throw new IndexOutOfBoundsException("no such term");
        }
        if (what != 0 && what != 1) {
            throw new IllegalArgumentException("what is 0 or 1");
        }
        return what == 0 ? tuple.ways.needs[k] : tuple.ways.lacks[k];
    }

    public int drop(int row, boolean on) {
        if (!sources.isRow(row)) {
            return NONE;
        }
        long before = present;
        present = on ? present & ~(1L << row) : present | 1L << row;
        return present == before ? 0 : 1;
    }

    public int holds(int t) {
        Tuple tuple = resultTuple(t);
        return tuple == null ? NONE : asNumber(tuple.ways.holdsWith(present));
    }

    public int made(int t) {
        Tuple tuple = resultTuple(t);
        return tuple == null ? NONE : tuple.ways.firstThatHolds(present);
    }

    public int under(int t, long set) {
        Tuple tuple = resultTuple(t);
        if (tuple == null) {
            return NONE;
        }
        if (set >>> sources.rowCount != 0) {
            return BAD;
        }
        return asNumber(tuple.ways.holdsWith(set));
    }

    public int forward(int row) {
        if (!sources.isRow(row)) {
            return NONE;
        }
        Table table = tableOf(result);
        int changed = 0;
        for (int t = 0; t < table.size; t++) {
            Ways ways = table.tuples[t].ways;
            if (ways.holdsWith(present) != ways.holdsWith(present ^ 1L << row)) {
                changed++;
            }
        }
        return changed;
    }

    public int count(int t) {
        Tuple tuple = resultTuple(t);
        if (tuple == null) {
            return NONE;
        }
        int rows = Long.bitCount(tuple.ways.rowsOfTerms());
        if (rows > MOST_COUNTED_ROWS) {
            return FULL;
        }
        return (1 << rows) - setsWithNone(tuple.ways, 0, 0L, 0L, rows);
    }

    public int matters(int t, int row) {
        Tuple tuple = resultTuple(t);
        if (tuple == null || !sources.isRow(row)) {
            return NONE;
        }
        long all = tuple.ways.rowsOfTerms();
        int rows = Long.bitCount(all);
        if (rows > MOST_COUNTED_ROWS) {
            return FULL;
        }
        long bit = 1L << row;
        return (all & bit) == 0 ? 0 : asNumber(isSeen(tuple.ways, bit, rows));
    }

    public int blame(int t) {
        Tuple tuple = resultTuple(t);
        if (tuple == null) {
            return NONE;
        }
        boolean held = tuple.ways.holdsWith(present);
        int leastToHold = held ? 0 : tuple.ways.leastDropsToHold(present);
        // The document names NONE, also for a TUPLE that no dropping changes, before FULL.
        if (leastToHold == NONE) {
            return NONE;
        }
        if (Long.bitCount(tuple.ways.rowsOfTerms()) > MOST_COUNTED_ROWS) {
            return FULL;
        }
        return held ? leastDropsToBreak(tuple.ways) : leastToHold;
    }

    public int told(int what) {
        switch (what) {
            case 0:
                return sources.sourceCount;
            case 1:
                return sources.rowCount;
            case 2:
                return nodeCount;
            case 3:
                return tableOf(result).size;
            case 4:
                return tableOf(result).howManyHold(present);
            case 5:
                return Long.bitCount(present);
            default:
                return BAD;
        }
    }

    public void clear() {
        sources.forgetAll();
        forgetWhatNodesGave();
        nodeCount = 0;
        present = 0L;
    }

    private boolean isNode(int node) {
        return node >= 0 && node < nodeCount;
    }

    private boolean hasColumn(int node, int column) {
        return isNode(node) && column >= 0 && column < nodes[node].width;
    }

    private int addAlikeNode(int operator, int first, int second) {
        if (!isNode(first) || !isNode(second)) {
            return NONE;
        }
        if (nodes[first].width != nodes[second].width) {
            return BAD;
        }
        if (nodeCount >= MOST_NODES) {
            return FULL;
        }
        openNode(operator, nodes[first].width, first, second).detail(NONE, NONE, 0, 0);
        return nodeCount++;
    }

    /** The next node; it and its table are made once, and used again after clear(). */
    private Node openNode(int operator, int width, int first, int second) {
        if (nodes[nodeCount] == null) {
            nodes[nodeCount] = new Node();
            tables[nodeCount] = new Table(MOST_TUPLES);
        }
        nodes[nodeCount].describe(operator, width, first, second);
        return nodes[nodeCount];
    }

    private void forgetWhatNodesGave() {
        for (int n = 0; n < nodeCount; n++) {
            nodes[n].state = UNKNOWN;
        }
        result = NONE;
    }

    /** The node and all it is made of, as bits. Others may be FULL without making this one FULL. */
    private long neededNodes(int node) {
        long needed = 1L << node;
        for (int n = node; n >= 0; n--) {
            if ((needed >> n & 1L) != 0) {
                needed |= bitOfNode(nodes[n].first) | bitOfNode(nodes[n].second);
            }
        }
        return needed;
    }

    private long bitOfNode(int node) {
        return isNode(node) ? 1L << node : 0L;
    }

    /** An empty table stands for what is not there: no RESULT, or an operator's missing part. */
    private Table tableOf(int node) {
        return isNode(node) ? tables[node] : nothing;
    }

    private Tuple resultTuple(int t) {
        Table table = tableOf(result);
        return t >= 0 && t < table.size ? table.tuples[t] : null;
    }

    private static int asNumber(boolean yes) {
        return yes ? 1 : 0;
    }

    private static int leastDigit(int digits) {
        int least = 9;
        for (int rest = digits; rest > 0; rest /= 10) {
            least = Math.min(least, rest % 10);
        }
        return least;
    }

    private static int greatestDigit(int digits) {
        int greatest = 0;
        for (int rest = digits; rest > 0; rest /= 10) {
            greatest = Math.max(greatest, rest % 10);
        }
        return greatest;
    }

    private static int digitCount(int digits) {
        int number = 0;
        for (int rest = digits; rest > 0; rest /= 10) {
            number++;
        }
        return number;
    }

    /**
     * How many sets of the rows have all of need, none of lack, and hold no TERM from the given one on.
     * By inclusion and exclusion this takes 4096 steps at most, where looking at each set takes 65536.
     */
    private static int setsWithNone(Ways ways, int from, long need, long lack, int rows) {
        if (from >= ways.size) {
            return 1 << (rows - Long.bitCount(need | lack));
        }
        int sets = setsWithNone(ways, from + 1, need, lack, rows);
        long moreNeed = need | ways.needs[from];
        long moreLack = lack | ways.lacks[from];
        if ((moreNeed & moreLack) != 0) {
            return sets;
        }
        return sets - setsWithNone(ways, from + 1, moreNeed, moreLack, rows);
    }

    /**
     * Whether the WAYS ever tells a set with the row from the same one without it. TERMS that forget the row
     * hold wherever one of both does; so both always agree just if neither fails more often than those do.
     */
    private boolean isSeen(Ways ways, long bit, int rows) {
        operators.draft.forget(ways, bit, blind);
        int neither = setsWithNone(blind, 0, bit, 0L, rows);
        return setsWithNone(ways, 0, bit, 0L, rows) != neither || setsWithNone(ways, 0, 0L, bit, rows) != neither;
    }

    private int leastDropsToBreak(Ways ways) {
        for (int drops = 0; drops <= MOST_TERMS; drops++) {
            if (canBreak(ways, present, drops)) {
                return drops;
            }
        }
        return NONE;
    }

    /**
     * A TERM that holds still has all it lacks away after more drops, so one of its needs must be dropped.
     * It can't hold again then: no more drops than there are TERMS are ever of use.
     */
    private static boolean canBreak(Ways ways, long there, int drops) {
        int k = ways.firstThatHolds(there);
        if (k == NONE) {
            return true;
        }
        for (int r = 0; r < MOST_ROWS && drops > 0; r++) {
            long bit = 1L << r;
            if ((ways.needs[k] & bit) != 0 && canBreak(ways, there & ~bit, drops - 1)) {
                return true;
            }
        }
        return false;
    }

    /** The sources and their rows. */
    private static final class Sources {
        private final int[] widths = new int[MOST_SOURCES];
        private final int[] sourceOf = new int[MOST_ROWS];
        private final int[][] numbers = new int[MOST_ROWS][MOST_COLUMNS];
        private int sourceCount;
        private int rowCount;

        private boolean isSource(int source) {
            return source >= 0 && source < sourceCount;
        }

        private boolean isRow(int row) {
            return row >= 0 && row < rowCount;
        }

        private int addSource(int width) {
            widths[sourceCount] = width;
            return sourceCount++;
        }

        private int addRow(int source, int a, int b, int c, int d) {
            int[] cells = numbers[rowCount];
            cells[0] = a;
            cells[1] = b;
            cells[2] = c;
            cells[3] = d;
            sourceOf[rowCount] = source;
            return rowCount++;
        }

        private void forgetAll() {
            sourceCount = 0;
            rowCount = 0;
        }
    }

    /** What a node is made of; what it gave stands in the table of the same number. */
    private static final class Node {
        private int operator;
        private int width;
        private int first;
        private int second;
        private int column;
        private int other;
        private int kind;
        private int number;
        private int state;

        private void describe(int newOperator, int newWidth, int newFirst, int newSecond) {
            operator = newOperator;
            width = newWidth;
            first = newFirst;
            second = newSecond;
            state = UNKNOWN;
        }

        private void detail(int newColumn, int newOther, int newKind, int newNumber) {
            column = newColumn;
            other = newOther;
            kind = newKind;
            number = newNumber;
        }
    }

    /** TERMS by their needs, of like ones by their lacks; a Draft has left out those that are absorbed. */
    private static final class Ways {
        private final long[] needs = new long[MOST_TERMS];
        private final long[] lacks = new long[MOST_TERMS];
        private int size;

        private void becomeFalse() {
            size = 0;
        }

        private void becomeTrue() {
            becomeTerm(0L, 0L);
        }

        private void becomeTerm(long need, long lack) {
            needs[0] = need;
            lacks[0] = lack;
            size = 1;
        }

        private void insert(long need, long lack) {
            if (size >= MOST_TERMS) {
                return;
            }
            int at = size;
            while (at > 0 && (needs[at - 1] > need || (needs[at - 1] == need && lacks[at - 1] > lack))) {
                needs[at] = needs[at - 1];
                lacks[at] = lacks[at - 1];
                at--;
            }
            needs[at] = need;
            lacks[at] = lack;
            size++;
        }

        private int firstThatHolds(long there) {
            for (int k = 0; k < size; k++) {
                if ((needs[k] & ~there) == 0 && (lacks[k] & there) == 0) {
                    return k;
                }
            }
            return NONE;
        }

        private boolean holdsWith(long there) {
            return firstThatHolds(there) != NONE;
        }

        private long rowsOfTerms() {
            long rows = 0L;
            for (int k = 0; k < size; k++) {
                rows |= needs[k] | lacks[k];
            }
            return rows;
        }

        /** NONE: every TERM needs a row that is not there, and drops bring none back. */
        private int leastDropsToHold(long there) {
            int least = NONE;
            for (int k = 0; k < size; k++) {
                int drops = Long.bitCount(lacks[k] & there);
                if ((needs[k] & ~there) == 0 && (least == NONE || drops < least)) {
                    least = drops;
                }
            }
            return least;
        }
    }

    /** Makes EITHER, BOTH and NOT; each answers false where the document says FULL. */
    private static final class Draft {
        // A NOT turns each of a WAYS' TERMS by each row; nothing else makes as many TERMS at once.
        private static final int ROOM = MOST_TERMS * MOST_ROWS;

        private final long[] needs = new long[ROOM];
        private final long[] lacks = new long[ROOM];
        private int size;

        /** What it makes may be one of the two it is made of. */
        private boolean either(Ways a, Ways b, Ways made) {
            size = 0;
            for (int i = 0; i < a.size; i++) {
                add(a.needs[i], a.lacks[i]);
            }
            for (int j = 0; j < b.size; j++) {
                add(b.needs[j], b.lacks[j]);
            }
            return settle(made);
        }

        /** What it makes may be one of the two it is made of. */
        private boolean both(Ways a, Ways b, Ways made) {
            size = 0;
            for (int i = 0; i < a.size; i++) {
                for (int j = 0; j < b.size; j++) {
                    add(a.needs[i] | b.needs[j], a.lacks[i] | b.lacks[j]);
                }
            }
            return settle(made);
        }

        private boolean not(Ways a, Ways made) {
            made.becomeTrue();
            for (int i = 0; i < a.size; i++) {
                size = 0;
                for (int k = 0; k < made.size; k++) {
                    addTurns(made.needs[k], made.lacks[k], a.needs[i], a.lacks[i]);
                }
                if (!settle(made)) {
                    return false;
                }
            }
            return true;
        }

        /** The TERMS without a row. */
        private void forget(Ways a, long bit, Ways made) {
            size = 0;
            for (int i = 0; i < a.size; i++) {
                add(a.needs[i] & ~bit, a.lacks[i] & ~bit);
            }
            settle(made);
        }

        private void addTurns(long need, long lack, long turnedNeed, long turnedLack) {
            for (int r = 0; r < MOST_ROWS; r++) {
                long bit = 1L << r;
                if ((turnedNeed & bit) != 0) {
                    add(need, lack | bit);
                }
                if ((turnedLack & bit) != 0) {
                    add(need | bit, lack);
                }
            }
        }

        /**
         * TERMS here never absorb each other: if one absorbs the new one, the new one absorbs none,
         * so nothing has been left out when that is found.
         */
        private void add(long need, long lack) {
            if ((need & lack) != 0) {
                return;
            }
            int kept = 0;
            for (int k = 0; k < size; k++) {
                if ((needs[k] & ~need) == 0 && (lacks[k] & ~lack) == 0) {
                    return;
                }
                if ((need & ~needs[k]) != 0 || (lack & ~lacks[k]) != 0) {
                    needs[kept] = needs[k];
                    lacks[kept] = lacks[k];
                    kept++;
                }
            }
            size = kept;
            if (size < ROOM) {
                needs[size] = need;
                lacks[size] = lack;
                size++;
            }
        }

        private boolean settle(Ways made) {
            if (size > MOST_TERMS) {
                return false;
            }
            made.becomeFalse();
            for (int k = 0; k < size; k++) {
                made.insert(needs[k], lacks[k]);
            }
            return true;
        }
    }

    /** Numbers, and the WAYS in which they come. */
    private static final class Tuple {
        private final int[] cells = new int[MOST_COLUMNS];
        private final Ways ways = new Ways();

        private void become(int[] key) {
            System.arraycopy(key, 0, cells, 0, MOST_COLUMNS);
            ways.becomeFalse();
        }
    }

    /** TUPLES in order; those behind the last one wait to be used. */
    private static final class Table {
        private final Tuple[] tuples = new Tuple[MOST_TUPLES];
        private int size;
        private int width;

        private Table(int room) {
            for (int t = 0; t < room && t < MOST_TUPLES; t++) {
                tuples[t] = new Tuple();
            }
        }

        private void begin(int newWidth) {
            size = 0;
            width = newWidth;
        }

        private Tuple find(int[] key) {
            int behind = firstBehind(key);
            return behind > 0 && order(tuples[behind - 1].cells, key) == 0 ? tuples[behind - 1] : null;
        }

        /** The TUPLE of these numbers, a new one with FALSE if there is none; null: there is no room. */
        private Tuple findOrAdd(int[] key) {
            int at = firstBehind(key);
            if (at > 0 && order(tuples[at - 1].cells, key) == 0) {
                return tuples[at - 1];
            }
            if (size >= MOST_TUPLES) {
                return null;
            }
            Tuple added = tuples[size];
            for (int t = size; t > at; t--) {
                tuples[t] = tuples[t - 1];
            }
            tuples[at] = added;
            size++;
            added.become(key);
            return added;
        }

        /** From the end, as most TUPLES come in order. */
        private int firstBehind(int[] key) {
            int at = size;
            while (at > 0 && order(tuples[at - 1].cells, key) > 0) {
                at--;
            }
            return at;
        }

        private int order(int[] one, int[] two) {
            for (int c = 0; c < width; c++) {
                if (one[c] != two[c]) {
                    return one[c] < two[c] ? -1 : 1;
                }
            }
            return 0;
        }

        private int howManyHold(long there) {
            int number = 0;
            for (int t = 0; t < size; t++) {
                if (tuples[t].ways.holdsWith(there)) {
                    number++;
                }
            }
            return number;
        }
    }

    /** Fills a node's table from those of its parts; each answers false where the document says FULL. */
    private static final class Operators {
        private final Draft draft = new Draft();
        private final Ways made = new Ways();
        private final Ways[] turned = new Ways[MOST_IN_GROUP];
        private final Tuple[] group = new Tuple[MOST_IN_GROUP];
        private final int[] key = new int[MOST_COLUMNS];

        private Operators() {
            for (int m = 0; m < MOST_IN_GROUP; m++) {
                turned[m] = new Ways();
            }
        }

        private boolean fill(Node node, Sources sources, Table first, Table second, Table out) {
            out.begin(node.width);
            switch (node.operator) {
                case SCAN:
                    return fillScan(node, sources, out);
                case PICK:
                    return fillPick(node, first, out);
                case COLS:
                    return fillCols(node, first, out);
                case JOIN:
                    return fillJoin(node, first, second, out);
                case UNITE:
                    return putAll(first, out) && putAll(second, out);
                case MINUS:
                    return fillMinus(first, second, out);
                default:
                    return fillFold(node, first, out);
            }
        }

        private boolean fillScan(Node node, Sources sources, Table out) {
            for (int r = 0; r < sources.rowCount; r++) {
                if (sources.sourceOf[r] == node.number) {
                    made.becomeTerm(1L << r, 0L);
                    if (!put(out, sources.numbers[r], made)) {
                        return false;
                    }
                }
            }
            return true;
        }

        private boolean fillPick(Node node, Table in, Table out) {
            for (int t = 0; t < in.size; t++) {
                Tuple tuple = in.tuples[t];
                if (isPicked(node, tuple.cells) && !put(out, tuple.cells, tuple.ways)) {
                    return false;
                }
            }
            return true;
        }

        private static boolean isPicked(Node node, int[] cells) {
            int left = cells[node.column];
            int right = node.other == NONE ? node.number : cells[node.other];
            switch (node.kind) {
                case BELOW:
                    return left < right;
                case LIKE:
                    return left == right;
                default:
                    return left > right;
            }
        }

        private boolean fillCols(Node node, Table in, Table out) {
            for (int t = 0; t < in.size; t++) {
                int rest = node.number;
                for (int c = 0; c < node.width; c++) {
                    key[c] = in.tuples[t].cells[rest % 10 - 1];
                    rest /= 10;
                }
                if (!put(out, key, in.tuples[t].ways)) {
                    return false;
                }
            }
            return true;
        }

        private boolean fillJoin(Node node, Table first, Table second, Table out) {
            for (int t = 0; t < first.size; t++) {
                for (int u = 0; u < second.size; u++) {
                    boolean meet = first.tuples[t].cells[node.column] == second.tuples[u].cells[node.other];
                    if (meet && !putPair(first, t, second, u, out)) {
                        return false;
                    }
                }
            }
            return true;
        }

        private boolean putPair(Table first, int t, Table second, int u, Table out) {
            System.arraycopy(first.tuples[t].cells, 0, key, 0, first.width);
            System.arraycopy(second.tuples[u].cells, 0, key, first.width, second.width);
            return draft.both(first.tuples[t].ways, second.tuples[u].ways, made) && put(out, key, made);
        }

        private boolean putAll(Table in, Table out) {
            for (int t = 0; t < in.size; t++) {
                if (!put(out, in.tuples[t].cells, in.tuples[t].ways)) {
                    return false;
                }
            }
            return true;
        }

        private boolean fillMinus(Table first, Table second, Table out) {
            for (int t = 0; t < first.size; t++) {
                Tuple tuple = first.tuples[t];
                Tuple taken = second.find(tuple.cells);
                boolean fits = taken == null ? put(out, tuple.cells, tuple.ways) : putWithout(tuple, taken, out);
                if (!fits) {
                    return false;
                }
            }
            return true;
        }

        private boolean putWithout(Tuple tuple, Tuple taken, Table out) {
            return draft.not(taken.ways, made) && draft.both(tuple.ways, made, made) && put(out, tuple.cells, made);
        }

        private boolean fillFold(Node node, Table in, Table out) {
            for (int t = 0; t < in.size; t++) {
                if (isFirstOfGroup(in, t, node.column)) {
                    int members = gatherGroup(in, t, node.column);
                    if (members > MOST_IN_GROUP || !putGroup(node, members, out)) {
                        return false;
                    }
                }
            }
            return true;
        }

        private static boolean isFirstOfGroup(Table in, int t, int by) {
            for (int u = 0; u < t; u++) {
                if (in.tuples[u].cells[by] == in.tuples[t].cells[by]) {
                    return false;
                }
            }
            return true;
        }

        /** How many TUPLES are in the group; more than it may have are counted, but not kept. */
        private int gatherGroup(Table in, int leader, int by) {
            int members = 0;
            for (int t = leader; t < in.size; t++) {
                if (in.tuples[t].cells[by] == in.tuples[leader].cells[by]) {
                    if (members < MOST_IN_GROUP) {
                        group[members] = in.tuples[t];
                    }
                    members++;
                }
            }
            return members;
        }

        private boolean putGroup(Node node, int members, Table out) {
            if (!turnGroup(members)) {
                return false;
            }
            for (int set = 1; set < 1 << members; set++) {
                key[0] = group[0].cells[node.column];
                key[1] = foldedNumber(node, set, members);
                if (!makeWaysOfSet(set, members) || !put(out, key, made)) {
                    return false;
                }
            }
            return true;
        }

        /** One alone is in every set that is not empty: its NOT is never made, so it can't be FULL. */
        private boolean turnGroup(int members) {
            for (int m = 0; m < members && members > 1; m++) {
                if (!draft.not(group[m].ways, turned[m])) {
                    return false;
                }
            }
            return true;
        }

        private boolean makeWaysOfSet(int set, int members) {
            made.becomeTrue();
            for (int m = 0; m < members; m++) {
                Ways next = (set >> m & 1) != 0 ? group[m].ways : turned[m];
                if (!draft.both(made, next, made)) {
                    return false;
                }
            }
            return true;
        }

        private int foldedNumber(Node node, int set, int members) {
            int many = 0;
            int sum = 0;
            int least = 0;
            int greatest = 0;
            for (int m = 0; m < members; m++) {
                if ((set >> m & 1) != 0) {
                    int number = group[m].cells[node.other];
                    sum += number;
                    least = many == 0 ? number : Math.min(least, number);
                    greatest = many == 0 ? number : Math.max(greatest, number);
                    many++;
                }
            }
            switch (node.kind) {
                case HOW_MANY:
                    return many;
                case SUM:
                    return sum;
                case LEAST:
                    return least;
                default:
                    return greatest;
            }
        }

        /** EITHER of what the TUPLE of these numbers has and of more; FALSE adds no TUPLE. */
        private boolean put(Table out, int[] numbers, Ways more) {
            if (more.size == 0) {
                return true;
            }
            Tuple place = out.findOrAdd(numbers);
            return place != null && draft.either(place.ways, more, place.ways);
        }
    }
}
