import java.util.ArrayList;
import java.util.Arrays;
import java.util.Collections;
import java.util.List;
import java.util.Map;
import java.util.SortedSet;
import java.util.TreeMap;
import java.util.TreeSet;

/**
 * The document once more, word by word and without any shortcut: sets are looked through one by one,
 * nothing is kept from one run to the next.
 */
final class Model {
    static final int NONE = -1;
    static final int BAD = -2;
    static final int FULL = -4;

    record Term(long needs, long lacks) implements Comparable<Term> {
        public int compareTo(Term other) {
            int byNeeds = Long.compareUnsigned(needs, other.needs);
            return byNeeds != 0 ? byNeeds : Long.compareUnsigned(lacks, other.lacks);
        }

        boolean absorbs(Term b) {
            return !equals(b) && (needs & ~b.needs) == 0 && (lacks & ~b.lacks) == 0;
        }

        boolean holds(long there) {
            return (needs & ~there) == 0 && (lacks & there) == 0;
        }
    }

    record Node(String operator, int width, int first, int second, int... details) {
    }

    record Row(int source, List<Integer> numbers) {
    }

    static final class Full extends Exception {
        private static final long serialVersionUID = 1L;
    }

    final List<Integer> sources = new ArrayList<>();
    final List<Row> rows = new ArrayList<>();
    final List<Node> nodes = new ArrayList<>();
    final TreeSet<Integer> dropped = new TreeSet<>();
    List<List<Integer>> tuples = new ArrayList<>();
    List<List<Term>> waysOf = new ArrayList<>();
    int width;

    // ---- WAYS

    static SortedSet<Term> leaveOut(SortedSet<Term> all) throws Full {
        TreeSet<Term> left = new TreeSet<>();
        for (Term b : all) {
            boolean absorbed = false;
            for (Term a : all) {
                absorbed |= a.absorbs(b);
            }
            if (!absorbed) {
                left.add(b);
            }
        }
        if (left.size() > 12) {
            throw new Full();
        }
        return left;
    }

    static SortedSet<Term> always() {
        return new TreeSet<>(List.of(new Term(0, 0)));
    }

    static SortedSet<Term> either(SortedSet<Term> a, SortedSet<Term> b) throws Full {
        TreeSet<Term> all = new TreeSet<>(a);
        all.addAll(b);
        return leaveOut(all);
    }

    static SortedSet<Term> both(SortedSet<Term> a, SortedSet<Term> b) throws Full {
        TreeSet<Term> all = new TreeSet<>();
        for (Term s : a) {
            for (Term t : b) {
                Term joint = new Term(s.needs | t.needs, s.lacks | t.lacks);
                if ((joint.needs & joint.lacks) == 0) {
                    all.add(joint);
                }
            }
        }
        return leaveOut(all);
    }

    static SortedSet<Term> not(SortedSet<Term> a) throws Full {
        SortedSet<Term> made = always();
        for (Term t : a) {
            TreeSet<Term> turns = new TreeSet<>();
            for (int r = 0; r < 64; r++) {
                if ((t.needs >> r & 1) != 0) {
                    turns.add(new Term(0, 1L << r));
                }
                if ((t.lacks >> r & 1) != 0) {
                    turns.add(new Term(1L << r, 0));
                }
            }
            made = both(made, turns);
        }
        return made;
    }

    // ---- what nodes give

    static final class Given extends TreeMap<List<Integer>, SortedSet<Term>> {
        private static final long serialVersionUID = 1L;

        Given() {
            super(Model::order);
        }

        void give(List<Integer> tuple, SortedSet<Term> ways) throws Full {
            if (!ways.isEmpty()) {
                put(tuple, containsKey(tuple) ? either(get(tuple), ways) : ways);
            }
        }
    }

    static int order(List<Integer> a, List<Integer> b) {
        for (int c = 0; c < a.size(); c++) {
            if (!a.get(c).equals(b.get(c))) {
                return Integer.compare(a.get(c), b.get(c));
            }
        }
        return 0;
    }

    Given give(int n, Map<Integer, Given> done) throws Full {
        if (!done.containsKey(n)) {
            Node node = nodes.get(n);
            Given first = node.first < 0 ? null : give(node.first, done);
            Given second = node.second < 0 ? null : give(node.second, done);
            Given out = operate(node, first, second);
            if (out.size() > 80) {
                throw new Full();
            }
            done.put(n, out);
        }
        return done.get(n);
    }

    Given operate(Node node, Given first, Given second) throws Full {
        Given out = new Given();
        switch (node.operator) {
            case "scan" -> {
                for (int r = 0; r < rows.size(); r++) {
                    if (rows.get(r).source == node.details[0]) {
                        out.give(rows.get(r).numbers, new TreeSet<>(List.of(new Term(1L << r, 0))));
                    }
                }
            }
            case "pick" -> {
                for (List<Integer> tuple : first.keySet()) {
                    int right = node.details[2] == -1 ? node.details[3] : tuple.get(node.details[2]);
                    if (Integer.compare(tuple.get(node.details[0]), right) == node.details[1] - 1) {
                        out.put(tuple, first.get(tuple));
                    }
                }
            }
            case "cols" -> {
                String digits = new StringBuilder("" + node.details[0]).reverse().toString();
                for (List<Integer> tuple : first.keySet()) {
                    List<Integer> some = new ArrayList<>();
                    for (char digit : digits.toCharArray()) {
                        some.add(tuple.get(digit - '1'));
                    }
                    out.give(some, first.get(tuple));
                }
            }
            case "join" -> {
                for (List<Integer> a : first.keySet()) {
                    for (List<Integer> b : second.keySet()) {
                        if (a.get(node.details[0]).equals(b.get(node.details[1]))) {
                            List<Integer> pair = new ArrayList<>(a);
                            pair.addAll(b);
                            out.give(pair, both(first.get(a), second.get(b)));
                        }
                    }
                }
            }
            case "unite" -> {
                for (List<Integer> tuple : first.keySet()) {
                    out.give(tuple, first.get(tuple));
                }
                for (List<Integer> tuple : second.keySet()) {
                    out.give(tuple, second.get(tuple));
                }
            }
            case "minus" -> {
                for (List<Integer> tuple : first.keySet()) {
                    SortedSet<Term> ways = first.get(tuple);
                    out.give(tuple, second.containsKey(tuple) ? both(ways, not(second.get(tuple))) : ways);
                }
            }
            default -> foldInto(node, first, out);
        }
        return out;
    }

    void foldInto(Node node, Given first, Given out) throws Full {
        TreeMap<Integer, List<List<Integer>>> groups = new TreeMap<>();
        for (List<Integer> tuple : first.keySet()) {
            groups.computeIfAbsent(tuple.get(node.details[0]), g -> new ArrayList<>()).add(tuple);
        }
        for (Map.Entry<Integer, List<List<Integer>>> entry : groups.entrySet()) {
            List<List<Integer>> group = entry.getValue();
            if (group.size() > 4) {
                throw new Full();
            }
            for (int set = 1; set < 1 << group.size(); set++) {
                List<Integer> numbers = new ArrayList<>();
                SortedSet<Term> ways = always();
                for (int m = 0; m < group.size(); m++) {
                    SortedSet<Term> its = first.get(group.get(m));
                    boolean in = (set >> m & 1) != 0;
                    ways = both(ways, in ? its : not(its));
                    if (in) {
                        numbers.add(group.get(m).get(node.details[1]));
                    }
                }
                int folded = switch (node.details[2]) {
                    case 0 -> numbers.size();
                    case 1 -> (int) numbers.stream().mapToLong(Integer::longValue).sum();
                    case 2 -> Collections.min(numbers);
                    default -> Collections.max(numbers);
                };
                out.give(List.of(entry.getKey(), folded), ways);
            }
        }
    }

    // ---- the calls

    int source(int columns) {
        if (columns < 1 || columns > 4) {
            return BAD;
        }
        if (sources.size() == 4) {
            return FULL;
        }
        sources.add(columns);
        return sources.size() - 1;
    }

    int row(int source, int a, int b, int c, int d) {
        if (source < 0 || source >= sources.size()) {
            return NONE;
        }
        if (rows.size() == 36) {
            return FULL;
        }
        rows.add(new Row(source, Arrays.asList(a, b, c, d).subList(0, sources.get(source))));
        forget();
        return rows.size() - 1;
    }

    void forget() {
        tuples = new ArrayList<>();
        waysOf = new ArrayList<>();
        width = 0;
    }

    boolean isNode(int n) {
        return n >= 0 && n < nodes.size();
    }

    boolean has(int n, int column) {
        return isNode(n) && column >= 0 && column < nodes.get(n).width;
    }

    int add(Node node) {
        if (nodes.size() == 16) {
            return FULL;
        }
        nodes.add(node);
        return nodes.size() - 1;
    }

    int scan(int source) {
        if (source < 0 || source >= sources.size()) {
            return NONE;
        }
        return add(new Node("scan", sources.get(source), -1, -1, source));
    }

    int pick(int node, int column, int sign, int other, int v) {
        if (!has(node, column) || other != -1 && !has(node, other)) {
            return NONE;
        }
        if (sign != 0 && sign != 1 && sign != 2) {
            return BAD;
        }
        return add(new Node("pick", nodes.get(node).width, node, -1, column, sign, other, v));
    }

    int cols(int node, int digits) {
        if (!isNode(node)) {
            return NONE;
        }
        String text = "" + digits;
        if (digits < 1 || digits > 999999 || text.contains("0")) {
            return BAD;
        }
        for (char digit : text.toCharArray()) {
            if (!has(node, digit - '1')) {
                return NONE;
            }
        }
        return add(new Node("cols", text.length(), node, -1, digits));
    }

    int join(int first, int second, int i, int j) {
        if (!has(first, i) || !has(second, j)) {
            return NONE;
        }
        int both = nodes.get(first).width + nodes.get(second).width;
        return both > 6 ? BAD : add(new Node("join", both, first, second, i, j));
    }

    int alike(String operator, int first, int second) {
        if (!isNode(first) || !isNode(second)) {
            return NONE;
        }
        if (nodes.get(first).width != nodes.get(second).width) {
            return BAD;
        }
        return add(new Node(operator, nodes.get(first).width, first, second));
    }

    int fold(int node, int by, int of, int kind) {
        if (!has(node, by) || !has(node, of)) {
            return NONE;
        }
        return kind < 0 || kind > 3 ? BAD : add(new Node("fold", 2, node, -1, by, of, kind));
    }

    int columns(int node) {
        return isNode(node) ? nodes.get(node).width : NONE;
    }

    int run(int node) {
        if (!isNode(node)) {
            return NONE;
        }
        try {
            Given given = give(node, new TreeMap<>());
            forget();
            for (List<Integer> tuple : given.keySet()) {
                tuples.add(tuple);
                waysOf.add(new ArrayList<>(given.get(tuple)));
            }
            width = nodes.get(node).width;
            return tuples.size();
        } catch (Full e) {
            return FULL;
        }
    }

    boolean isTuple(int t) {
        return t >= 0 && t < tuples.size();
    }

    boolean isRow(int r) {
        return r >= 0 && r < rows.size();
    }

    String cell(int t, int column) {
        boolean there = isTuple(t) && column >= 0 && column < width;
        return there ? "" + tuples.get(t).get(column) : "IndexOutOfBoundsException";
    }

    int ways(int t) {
        return isTuple(t) ? waysOf.get(t).size() : NONE;
    }

    String way(int t, int k, int what) {
        if (!isTuple(t) || k < 0 || k >= waysOf.get(t).size()) {
            return "IndexOutOfBoundsException";
        }
        Term term = waysOf.get(t).get(k);
        return what == 0 ? "" + term.needs : what == 1 ? "" + term.lacks : "IllegalArgumentException";
    }

    int drop(int row, boolean on) {
        if (!isRow(row)) {
            return NONE;
        }
        return (on ? dropped.add(row) : dropped.remove(row)) ? 1 : 0;
    }

    long present() {
        long there = 0;
        for (int r = 0; r < rows.size(); r++) {
            there |= dropped.contains(r) ? 0 : 1L << r;
        }
        return there;
    }

    boolean holdsUnder(int t, long there) {
        return waysOf.get(t).stream().anyMatch(term -> term.holds(there));
    }

    int holds(int t) {
        return !isTuple(t) ? NONE : holdsUnder(t, present()) ? 1 : 0;
    }

    int made(int t) {
        for (int k = 0; isTuple(t) && k < waysOf.get(t).size(); k++) {
            if (waysOf.get(t).get(k).holds(present())) {
                return k;
            }
        }
        return NONE;
    }

    int under(int t, long set) {
        if (!isTuple(t)) {
            return NONE;
        }
        for (int r = rows.size(); r < 64; r++) {
            if ((set >> r & 1) != 0) {
                return BAD;
            }
        }
        return holdsUnder(t, set) ? 1 : 0;
    }

    int forward(int row) {
        if (!isRow(row)) {
            return NONE;
        }
        int changed = 0;
        for (int t = 0; t < tuples.size(); t++) {
            changed += holdsUnder(t, present()) != holdsUnder(t, present() ^ 1L << row) ? 1 : 0;
        }
        return changed;
    }

    long rowsOf(int t) {
        long all = 0;
        for (Term term : waysOf.get(t)) {
            all |= term.needs | term.lacks;
        }
        return all;
    }

    int count(int t) {
        if (!isTuple(t)) {
            return NONE;
        }
        long all = rowsOf(t);
        if (Long.bitCount(all) > 16) {
            return FULL;
        }
        int sets = holdsUnder(t, 0) ? 1 : 0;
        for (long set = all; set != 0; set = (set - 1) & all) {
            sets += holdsUnder(t, set) ? 1 : 0;
        }
        return sets;
    }

    int matters(int t, int row) {
        if (!isTuple(t) || !isRow(row)) {
            return NONE;
        }
        long all = rowsOf(t);
        if (Long.bitCount(all) > 16) {
            return FULL;
        }
        for (long set = all; ; set = (set - 1) & all) {
            if (holdsUnder(t, set) != holdsUnder(t, set ^ 1L << row)) {
                return 1;
            }
            if (set == 0) {
                return 0;
            }
        }
    }

    int blame(int t) {
        if (!isTuple(t)) {
            return NONE;
        }
        boolean held = holdsUnder(t, present());
        boolean canHold = waysOf.get(t).stream().anyMatch(term -> (term.needs & ~present()) == 0);
        if (!held && !canHold) {
            return NONE;
        }
        if (Long.bitCount(rowsOf(t)) > 16) {
            return FULL;
        }
        long all = rowsOf(t) & present();
        int least = Integer.MAX_VALUE;
        for (long set = all; set != 0; set = (set - 1) & all) {
            if (holdsUnder(t, present() & ~set) != held) {
                least = Math.min(least, Long.bitCount(set));
            }
        }
        return least == Integer.MAX_VALUE ? NONE : least;
    }

    int told(int what) {
        return switch (what) {
            case 0 -> sources.size();
            case 1 -> rows.size();
            case 2 -> nodes.size();
            case 3 -> tuples.size();
            case 4 -> {
                int hold = 0;
                for (int t = 0; t < tuples.size(); t++) {
                    hold += holdsUnder(t, present()) ? 1 : 0;
                }
                yield hold;
            }
            case 5 -> rows.size() - dropped.size();
            default -> BAD;
        };
    }

    void clear() {
        sources.clear();
        rows.clear();
        nodes.clear();
        dropped.clear();
        forget();
    }
}
