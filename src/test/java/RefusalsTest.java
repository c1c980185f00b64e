/**
 * Each refusal of each call, with the number next to it that is not refused. A refused call answers the first
 * refusal that fits, as the document names them, and changes nothing: what is seen afterwards, and what later calls
 * answer, is compared with an object on which the call was not made.
 */
public final class RefusalsTest {
    private static final int NONE = RowLineage.NONE;
    private static final int BAD = RowLineage.BAD;
    private static final int FULL = RowLineage.FULL;
    private static final int LOW = Integer.MIN_VALUE;
    private static final int HIGH = Integer.MAX_VALUE;
    private static final String NO_INDEX = "IndexOutOfBoundsException";
    private static final String NO_ARGUMENT = "IllegalArgumentException";
    private static final Scene[] ALL = {Scenes::fresh, Scenes::middle, Scenes::full};

    private static final Checks CHECKS = new Checks("RefusalsTest");

    interface Scene {
        RowLineage make();
    }

    interface Call {
        Object on(RowLineage x);
    }

    public static void main(String[] args) {
        promise2Source();
        promise3Row();
        promise4Scan();
        promise5Pick();
        promise6ColsNode();
        promise6ColsDigits();
        promise7Join();
        promise8And9UniteMinus();
        promise10Fold();
        promise11Columns();
        promise12Run();
        promise13Cell();
        promises14To18And21To23NoTuple();
        promise15Way();
        promise16Drop();
        promise19Under();
        promise20Forward();
        promise21To23Full();
        promise22Matters();
        promise24Told();
        CHECKS.end();
    }

    private static void due(String call, Object got, Object want) {
        CHECKS.due(call, got, want);
    }

    private static void refused(String name, Scene scene, Call call, Object want) {
        RowLineage x = scene.make();
        due(name, call.on(x), want);
        due(name + ": nothing has changed", Still.now(x), Still.now(scene.make()));
        RowLineage y = scene.make();
        call.on(y);
        due(name + ": later calls are as ever", Still.later(y), Still.later(scene.make()));
    }

    private static void refusedInAll(String name, Call call, Object want) {
        for (Scene scene : ALL) {
            refused(name, scene, call, want);
        }
    }

    private static void answered(String name, Scene scene, Call call, Object want) {
        due(name, call.on(scene.make()), want);
    }

    private static void promise2Source() {
        for (int columns : new int[] {0, 5, -1, LOW, HIGH}) {
            refusedInAll("2 BAD, before FULL: source(" + columns + ")", x -> x.source(columns), BAD);
        }
        for (int columns = 1; columns <= 4; columns++) {
            int wanted = columns;
            answered("2 source(" + wanted + ")", Scenes::middle, x -> x.source(wanted), 3);
            refused("2 FULL: source(" + wanted + ")", Scenes::full, x -> x.source(wanted), FULL);
        }
    }

    private static void promise3Row() {
        for (int source : new int[] {-1, 4, LOW, HIGH}) {
            refusedInAll("3 NONE, before FULL: row(" + source + ")", x -> x.row(source, 1, 2, 3, 4), NONE);
        }
        refused("3 NONE: row(0) without a source", Scenes::fresh, x -> x.row(0, 1, 2, 3, 4), NONE);
        refused("3 NONE: the next source", Scenes::middle, x -> x.row(3, 1, 2, 3, 4), NONE);
        answered("3 the last source", Scenes::middle, x -> x.row(2, 1, 2, 3, 4), 6);
        for (int source = 0; source < 4; source++) {
            int any = source;
            refused("3 FULL: row(" + any + ")", Scenes::full, x -> x.row(any, 1, 2, 3, 4), FULL);
        }
    }

    private static void promise4Scan() {
        for (int source : new int[] {-1, 4, LOW, HIGH}) {
            refusedInAll("4 NONE, before FULL: scan(" + source + ")", x -> x.scan(source), NONE);
        }
        refused("4 NONE: scan(0) without a source", Scenes::fresh, x -> x.scan(0), NONE);
        refused("4 NONE: the next source", Scenes::middle, x -> x.scan(3), NONE);
        answered("4 the last source", Scenes::middle, x -> x.scan(2), 7);
        for (int source = 0; source < 4; source++) {
            int any = source;
            refused("4 FULL: scan(" + any + ")", Scenes::full, x -> x.scan(any), FULL);
        }
    }

    /** Also as wrong as can be: what comes first counts. */
    private static void promise5Pick() {
        for (int node : new int[] {-1, 16, LOW, HIGH}) {
            refusedInAll("5 NONE: node " + node, x -> x.pick(node, 0, 0, NONE, 0), NONE);
            refusedInAll("5 NONE before BAD: node " + node, x -> x.pick(node, 0, 3, NONE, 0), NONE);
        }
        refused("5 NONE: without a node", Scenes::fresh, x -> x.pick(0, 0, 0, NONE, 0), NONE);
        refused("5 NONE: its own number", Scenes::middle, x -> x.pick(7, 0, 0, NONE, 0), NONE);
        Scene[] scenes = {Scenes::middle, Scenes::full};
        for (Scene scene : scenes) {
            for (int column : new int[] {-1, 2, 6, LOW, HIGH}) {
                refused("5 NONE: COLUMN " + column, scene, x -> x.pick(0, column, 0, NONE, 0), NONE);
                refused("5 NONE before BAD: COLUMN " + column, scene, x -> x.pick(0, column, -1, 0, 0), NONE);
            }
            for (int other : new int[] {-2, 2, 6, LOW, HIGH}) {
                refused("5 NONE: other " + other, scene, x -> x.pick(0, 0, 0, other, 0), NONE);
                refused("5 NONE before BAD: other " + other, scene, x -> x.pick(0, 0, 3, other, 0), NONE);
            }
            for (int sign : new int[] {-1, 3, LOW, HIGH}) {
                refused("5 BAD, before FULL: sign " + sign, scene, x -> x.pick(0, 0, sign, NONE, 0), BAD);
                refused("5 BAD, before FULL: sign " + sign, scene, x -> x.pick(0, 1, sign, 1, 0), BAD);
            }
        }
        for (int sign = 0; sign <= 2; sign++) {
            int any = sign;
            answered("5 the last node", Scenes::middle, x -> x.pick(6, 5, any, 5, 0), 7);
            refused("5 FULL", Scenes::full, x -> x.pick(0, 1, any, NONE, 0), FULL);
            refused("5 FULL", Scenes::full, x -> x.pick(0, 1, any, 1, 0), FULL);
        }
    }

    private static void promise6ColsNode() {
        for (int digits : new int[] {1, 0, 10, 1000000, 9}) {
            for (int node : new int[] {-1, 16, LOW, HIGH}) {
                refusedInAll("6 NONE first: cols(" + node + ", " + digits + ")", x -> x.cols(node, digits), NONE);
            }
            refused("6 NONE: without a node", Scenes::fresh, x -> x.cols(0, digits), NONE);
            refused("6 NONE: its own number", Scenes::middle, x -> x.cols(7, digits), NONE);
        }
        answered("6 the last node", Scenes::middle, x -> x.cols(6, 1), 7);
        refused("6 FULL", Scenes::full, x -> x.cols(0, 1), FULL);
        refused("6 FULL", Scenes::full, x -> x.cols(6, 654321), FULL);
    }

    /** Node 0 has 2 COLUMNS, node 6 has 6. */
    private static void promise6ColsDigits() {
        int[] bad = {0, -1, LOW, 1000000, 1111111, HIGH, 10, 20, 101, 110, 100000, 111110, 101111, 900000, 990999,
            30, 103, 301};
        int[] none = {3, 9, 13, 31, 111113, 311111, 113111, 999999};
        Scene[] scenes = {Scenes::middle, Scenes::full};
        for (Scene scene : scenes) {
            for (int digits : bad) {
                refused("6 BAD, before NONE and FULL: cols(0, " + digits + ")", scene, x -> x.cols(0, digits), BAD);
            }
            for (int digits : none) {
                refused("6 NONE, before FULL: cols(0, " + digits + ")", scene, x -> x.cols(0, digits), NONE);
            }
            refused("6 NONE: digit 7 of six COLUMNS", scene, x -> x.cols(6, 7), NONE);
            refused("6 NONE: digit 7 of six COLUMNS", scene, x -> x.cols(6, 711111), NONE);
        }
        for (int digits : new int[] {1, 2, 12, 222222, 111111}) {
            answered("6 cols(0, " + digits + ")", Scenes::middle, x -> x.cols(0, digits), 7);
        }
        answered("6 cols(6, 666666)", Scenes::middle, x -> x.cols(6, 666666), 7);
    }

    /** Nodes 0, 1, 2, 6 have 2, 1, 3, 6 COLUMNS. */
    private static void promise7Join() {
        for (int node : new int[] {-1, 16, LOW, HIGH}) {
            refusedInAll("7 NONE: first " + node, x -> x.join(node, 0, 0, 0), NONE);
            refusedInAll("7 NONE: second " + node, x -> x.join(0, node, 0, 0), NONE);
            refusedInAll("7 NONE: both " + node, x -> x.join(node, node, node, node), NONE);
        }
        refused("7 NONE: without a node", Scenes::fresh, x -> x.join(0, 0, 0, 0), NONE);
        refused("7 NONE: first is its own number", Scenes::middle, x -> x.join(7, 0, 0, 0), NONE);
        refused("7 NONE: second is its own number", Scenes::middle, x -> x.join(0, 7, 0, 0), NONE);
        Scene[] scenes = {Scenes::middle, Scenes::full};
        for (Scene scene : scenes) {
            for (int column : new int[] {-1, 6, LOW, HIGH}) {
                refused("7 NONE: i " + column, scene, x -> x.join(0, 2, column, 0), NONE);
                refused("7 NONE: j " + column, scene, x -> x.join(0, 2, 0, column), NONE);
                refused("7 NONE before BAD: i " + column, scene, x -> x.join(6, 6, column, 0), NONE);
                refused("7 NONE before BAD: j " + column, scene, x -> x.join(6, 6, 0, column), NONE);
            }
            refused("7 NONE: i is one too many", scene, x -> x.join(0, 2, 2, 2), NONE);
            refused("7 NONE: j is one too many", scene, x -> x.join(0, 2, 1, 3), NONE);
            refused("7 BAD, before FULL: 6 and 1", scene, x -> x.join(6, 1, 5, 0), BAD);
            refused("7 BAD, before FULL: 1 and 6", scene, x -> x.join(1, 6, 0, 5), BAD);
            refused("7 BAD, before FULL: 6 and 6", scene, x -> x.join(6, 6, 0, 0), BAD);
        }
        answered("7 3 and 3", Scenes::middle, x -> x.join(2, 2, 2, 2), 7);
        refused("7 FULL", Scenes::full, x -> x.join(2, 2, 2, 2), FULL);
        refused("7 FULL", Scenes::full, x -> x.join(0, 1, 1, 0), FULL);
    }

    /** Nodes 0 and 5 have 2 COLUMNS, nodes 1 and 3 have 1. */
    private static void promise8And9UniteMinus() {
        for (int node : new int[] {-1, 16, LOW, HIGH}) {
            refusedInAll("8 NONE: first " + node, x -> x.unite(node, 0), NONE);
            refusedInAll("8 NONE: second " + node, x -> x.unite(0, node), NONE);
            refusedInAll("8 NONE: both " + node, x -> x.unite(node, node), NONE);
            refusedInAll("9 NONE: first " + node, x -> x.minus(node, 0), NONE);
            refusedInAll("9 NONE: second " + node, x -> x.minus(0, node), NONE);
            refusedInAll("9 NONE: both " + node, x -> x.minus(node, node), NONE);
        }
        refused("8 NONE: without a node", Scenes::fresh, x -> x.unite(0, 0), NONE);
        refused("9 NONE: without a node", Scenes::fresh, x -> x.minus(0, 0), NONE);
        refused("8 NONE: first is its own number", Scenes::middle, x -> x.unite(7, 0), NONE);
        refused("9 NONE: first is its own number", Scenes::middle, x -> x.minus(7, 0), NONE);
        refused("8 NONE: second is its own number", Scenes::middle, x -> x.unite(0, 7), NONE);
        refused("9 NONE: second is its own number", Scenes::middle, x -> x.minus(0, 7), NONE);
        Scene[] scenes = {Scenes::middle, Scenes::full};
        for (Scene scene : scenes) {
            for (int[] two : new int[][] {{0, 1}, {1, 0}, {0, 2}, {2, 0}, {0, 6}}) {
                refused("8 BAD, before FULL: " + two[0] + ", " + two[1], scene, x -> x.unite(two[0], two[1]), BAD);
                refused("9 BAD, before FULL: " + two[0] + ", " + two[1], scene, x -> x.minus(two[0], two[1]), BAD);
            }
        }
        for (int[] two : new int[][] {{0, 5}, {3, 1}, {6, 6}}) {
            answered("8 as many COLUMNS", Scenes::middle, x -> x.unite(two[0], two[1]), 7);
            answered("9 as many COLUMNS", Scenes::middle, x -> x.minus(two[0], two[1]), 7);
            refused("8 FULL", Scenes::full, x -> x.unite(two[0], two[1]), FULL);
            refused("9 FULL", Scenes::full, x -> x.minus(two[0], two[1]), FULL);
        }
    }

    private static void promise10Fold() {
        for (int node : new int[] {-1, 16, LOW, HIGH}) {
            refusedInAll("10 NONE: node " + node, x -> x.fold(node, 0, 0, 0), NONE);
            refusedInAll("10 NONE before BAD: node " + node, x -> x.fold(node, 0, 0, 4), NONE);
        }
        refused("10 NONE: without a node", Scenes::fresh, x -> x.fold(0, 0, 0, 0), NONE);
        refused("10 NONE: its own number", Scenes::middle, x -> x.fold(7, 0, 0, 0), NONE);
        Scene[] scenes = {Scenes::middle, Scenes::full};
        for (Scene scene : scenes) {
            for (int column : new int[] {-1, 2, 6, LOW, HIGH}) {
                refused("10 NONE: by " + column, scene, x -> x.fold(0, column, 0, 0), NONE);
                refused("10 NONE: of " + column, scene, x -> x.fold(0, 0, column, 0), NONE);
                refused("10 NONE before BAD: by " + column, scene, x -> x.fold(0, column, 0, -1), NONE);
                refused("10 NONE before BAD: of " + column, scene, x -> x.fold(0, 0, column, 4), NONE);
            }
            for (int kind : new int[] {-1, 4, LOW, HIGH}) {
                refused("10 BAD, before FULL: kind " + kind, scene, x -> x.fold(0, 1, 1, kind), BAD);
            }
        }
        for (int kind = 0; kind <= 3; kind++) {
            int any = kind;
            answered("10 kind " + any, Scenes::middle, x -> x.fold(6, 5, 5, any), 7);
            refused("10 FULL: kind " + any, Scenes::full, x -> x.fold(0, 1, 1, any), FULL);
        }
    }

    private static void promise11Columns() {
        for (int node : new int[] {-1, 16, LOW, HIGH}) {
            refusedInAll("11 NONE: columns(" + node + ")", x -> x.columns(node), NONE);
        }
        refused("11 NONE: without a node", Scenes::fresh, x -> x.columns(0), NONE);
        refused("11 NONE: the next node", Scenes::middle, x -> x.columns(7), NONE);
        answered("11 the last node", Scenes::middle, x -> x.columns(6), 6);
        answered("11 the last node of 16", Scenes::full, x -> x.columns(15), 4);
    }

    private static void promise12Run() {
        for (int node : new int[] {-1, 16, LOW, HIGH}) {
            refusedInAll("12 NONE: run(" + node + ")", x -> x.run(node), NONE);
        }
        refused("12 NONE: without a node", Scenes::fresh, x -> x.run(0), NONE);
        refused("12 NONE: the next node", Scenes::middle, x -> x.run(7), NONE);
        answered("12 the last node", Scenes::middle, x -> x.run(6), 1);
        answered("12 the last node of 16", Scenes::full, x -> x.run(15), 5);
        for (int node : new int[] {1, 4, 7, 8}) {
            refused("12 FULL: run(" + node + ")", Scenes::overfull, x -> x.run(node), FULL);
        }
        refused("12 FULL, and again", Scenes::overfull, x -> x.run(8) + x.run(8) + x.run(1), 3 * FULL);
        for (int node : new int[] {0, 2, 3, 5, 6, 9}) {
            due("12 not FULL: run(" + node + ")", Scenes.overfull().run(node) > 0, true);
        }
    }

    /** THE RESULT has 2 TUPLES of 1 COLUMN. */
    private static void promise13Cell() {
        for (int t : new int[] {-1, 2, 80, LOW, HIGH}) {
            refusedInAll("13 no TUPLE " + t, x -> Shown.cell(x, t, 0), NO_INDEX);
        }
        refused("13 no RESULT", Scenes::fresh, x -> Shown.cell(x, 0, 0), NO_INDEX);
        for (int column : new int[] {-1, 1, 5, 6, LOW, HIGH}) {
            refusedInAll("13 no COLUMN " + column, x -> Shown.cell(x, 0, column), NO_INDEX);
            refusedInAll("13 neither", x -> Shown.cell(x, 2, column), NO_INDEX);
        }
        answered("13 the last TUPLE", Scenes::middle, x -> Shown.cell(x, 1, 0), "6");
        Call lastColumn = x -> x.run(6) + " " + Shown.cell(x, 0, 5) + " " + Shown.cell(x, 0, 6);
        answered("13 the last COLUMN", Scenes::middle, lastColumn, "1 3 " + NO_INDEX);
        Call noTuple = x -> x.run(x.minus(0, 0)) + " " + Shown.cell(x, 0, 0);
        answered("13 a RESULT without TUPLES", Scenes::middle, noTuple, "0 " + NO_INDEX);
    }

    private static String tupleCalls(RowLineage x, int t) {
        return x.ways(t) + " " + x.holds(t) + " " + x.made(t) + " " + x.under(t, 0L) + " " + x.count(t) + " "
            + x.matters(t, 0) + " " + x.blame(t);
    }

    private static void promises14To18And21To23NoTuple() {
        String none = "-1 -1 -1 -1 -1 -1 -1";
        for (int t : new int[] {-1, 2, 79, 80, LOW, HIGH}) {
            refusedInAll("14, 17, 18, 19, 21, 22, 23 no TUPLE " + t, x -> tupleCalls(x, t), none);
        }
        refused("14, 17, 18, 19, 21, 22, 23 no RESULT", Scenes::fresh, x -> tupleCalls(x, 0), none);
        Call noTuple = x -> x.run(x.minus(0, 0)) + ": " + tupleCalls(x, 0);
        answered("14, 17, 18, 19, 21, 22, 23 no TUPLES", Scenes::middle, noTuple, "0: " + none);
        Call gone = x -> x.row(0, 7, 7, 0, 0) + ": " + tupleCalls(x, 0);
        answered("14, 17, 18, 19, 21, 22, 23 gone", Scenes::middle, gone, "6: " + none);
        answered("the first TUPLE", Scenes::middle, x -> tupleCalls(x, 0), "2 0 -1 0 3 1 2");
        answered("the last TUPLE", Scenes::middle, x -> tupleCalls(x, 1), "1 0 -1 0 1 0 -1");
    }

    /** TUPLE 0 has 2 TERMS, TUPLE 1 has 1. */
    private static void promise15Way() {
        for (int what : new int[] {0, 1, 2, -1}) {
            for (int t : new int[] {-1, 2, LOW, HIGH}) {
                refusedInAll("15 no TUPLE " + t + ", first", x -> Shown.way(x, t, 0, what), NO_INDEX);
            }
            for (int k : new int[] {-1, 2, 11, 12, LOW, HIGH}) {
                refusedInAll("15 no TERM " + k + ", first", x -> Shown.way(x, 0, k, what), NO_INDEX);
            }
            refused("15 no TERM 1 of the other", Scenes::middle, x -> Shown.way(x, 1, 1, what), NO_INDEX);
            refused("15 no RESULT", Scenes::fresh, x -> Shown.way(x, 0, 0, what), NO_INDEX);
        }
        for (int what : new int[] {-1, 2, LOW, HIGH}) {
            refused("15 what " + what, Scenes::middle, x -> Shown.way(x, 0, 1, what), NO_ARGUMENT);
            refused("15 what " + what, Scenes::full, x -> Shown.way(x, 1, 0, what), NO_ARGUMENT);
        }
        answered("15 the last TERM's NEEDS", Scenes::middle, x -> Shown.way(x, 0, 1, 0), "4");
        answered("15 the last TERM's LACKS", Scenes::middle, x -> Shown.way(x, 0, 1, 1), "24");
    }

    private static void promise16Drop() {
        for (int row : new int[] {-1, 36, 63, 64, LOW, HIGH}) {
            refusedInAll("16 NONE: drop(" + row + ", true)", x -> x.drop(row, true), NONE);
            refusedInAll("16 NONE: drop(" + row + ", false)", x -> x.drop(row, false), NONE);
        }
        refused("16 NONE: no ROW", Scenes::fresh, x -> x.drop(0, true), NONE);
        refused("16 NONE: the next ROW", Scenes::middle, x -> x.drop(6, true), NONE);
        refused("16 NONE: the next ROW", Scenes::middle, x -> x.drop(6, false), NONE);
        answered("16 the last ROW", Scenes::middle, x -> x.drop(5, true), 1);
        refused("16 0: it was PRESENT", Scenes::middle, x -> x.drop(5, false), 0);
        refused("16 0: it was DROPPED", Scenes::middle, x -> x.drop(1, true), 0);
        refused("16 0: it was DROPPED", Scenes::full, x -> x.drop(35, true), 0);
        answered("16 PRESENT again", Scenes::full, x -> x.drop(35, false), 1);
    }

    private static void promise19Under() {
        for (int bit = 6; bit < 64; bit++) {
            long beyond = 1L << bit;
            refused("19 BAD: bit " + bit, Scenes::middle, x -> x.under(0, beyond), BAD);
            refused("19 BAD: bit " + bit + ", and ROWS", Scenes::middle, x -> x.under(1, beyond | 63L), BAD);
            refused("19 NONE before BAD: bit " + bit, Scenes::middle, x -> x.under(2, beyond), NONE);
        }
        refused("19 BAD: bit 36 of 36 ROWS", Scenes::full, x -> x.under(0, 1L << 36), BAD);
        refused("19 BAD: all bits", Scenes::full, x -> x.under(0, -1L), BAD);
        refused("19 NONE before BAD: all bits", Scenes::full, x -> x.under(-1, -1L), NONE);
        refused("19 all ROWS, nothing changes", Scenes::full, x -> x.under(1, (1L << 36) - 1), 1);
        refused("19 the last ROW alone", Scenes::full, x -> x.under(1, 1L << 35), 0);
        refused("19 all ROWS, nothing changes", Scenes::middle, x -> x.under(0, 63L), 0);
        refused("19 no ROW", Scenes::middle, x -> x.under(0, 0L), 0);
        refused("19 those without the DROPPED one", Scenes::middle, x -> x.under(0, 5L), 1);
        refused("19 the DROPPED one", Scenes::middle, x -> x.under(1, 2L), 1);
    }

    private static void promise20Forward() {
        for (int row : new int[] {-1, 36, 63, 64, LOW, HIGH}) {
            refusedInAll("20 NONE: forward(" + row + ")", x -> x.forward(row), NONE);
        }
        refused("20 NONE: no ROW", Scenes::fresh, x -> x.forward(0), NONE);
        refused("20 NONE: the next ROW", Scenes::middle, x -> x.forward(6), NONE);
        refused("20 the last ROW, in no TERM", Scenes::middle, x -> x.forward(5), 0);
        refused("20 a DROPPED ROW", Scenes::middle, x -> x.forward(1), 1);
        refused("20 the last of 36 ROWS", Scenes::full, x -> x.forward(35), 0);
        answered("20 no RESULT any more", Scenes::middle, x -> x.row(0, 0, 0, 0, 0) + " " + x.forward(1), "6 0");
        answered("20 no TUPLES", Scenes::middle, x -> x.run(x.minus(0, 0)) + " " + x.forward(1), "0 0");
    }

    private static void promise21To23Full() {
        refused("21 FULL", Scenes::wide, x -> x.count(0), FULL);
        refused("23 FULL", Scenes::wide, x -> x.blame(0), FULL);
        refused("21 NONE before FULL", Scenes::wide, x -> x.count(1), NONE);
        refused("23 NONE before FULL", Scenes::wide, x -> x.blame(1), NONE);
        for (int row = 0; row < 18; row++) {
            int any = row;
            refused("22 FULL: row " + any, Scenes::wide, x -> x.matters(0, any), FULL);
        }
        Call noneLeft = x -> x.drop(0, true) + x.drop(1, true) + x.drop(2, true) + " " + x.blame(0);
        answered("23 NONE, no dropping does so, before FULL", Scenes::wide, noneLeft, "3 -1");
    }

    private static void promise22Matters() {
        for (int row : new int[] {-1, 36, 63, 64, LOW, HIGH}) {
            refusedInAll("22 NONE: row " + row, x -> x.matters(0, row), NONE);
            refused("22 NONE before FULL: row " + row, Scenes::wide, x -> x.matters(0, row), NONE);
            refusedInAll("22 NONE: neither", x -> x.matters(2, row), NONE);
        }
        refused("22 NONE: the next ROW", Scenes::middle, x -> x.matters(0, 6), NONE);
        refused("22 NONE before FULL: the next ROW", Scenes::wide, x -> x.matters(0, 18), NONE);
        refused("22 NONE before FULL: no TUPLE", Scenes::wide, x -> x.matters(1, 0), NONE);
        refused("22 the last ROW", Scenes::middle, x -> x.matters(0, 5), 0);
        refused("22 the last of its ROWS", Scenes::middle, x -> x.matters(0, 4), 1);
        refused("22 the last of 36 ROWS", Scenes::full, x -> x.matters(0, 35), 0);
    }

    private static void promise24Told() {
        for (int what : new int[] {-1, 6, LOW, HIGH}) {
            refusedInAll("24 BAD: told(" + what + ")", x -> x.told(what), BAD);
        }
        answered("24 all of a new one", Scenes::fresh, Still::tolds, "0 0 0 0 0 0");
        answered("24 all of the middle", Scenes::middle, Still::tolds, "3 6 7 2 0 5");
        answered("24 all of the full", Scenes::full, Still::tolds, "4 36 16 2 0 34");
    }

    private RefusalsTest() {
    }
}
