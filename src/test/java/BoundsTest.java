/**
 * Each limit and each edge that the document's section "Terms" names: one below it, at it, and one beyond it. The
 * document's words stand above each test. (What calls refuse stands in RefusalsTest.)
 */
public final class BoundsTest {
    private static final int NONE = RowLineage.NONE;
    private static final int BAD = RowLineage.BAD;
    private static final int FULL = RowLineage.FULL;
    private static final int LOW = Integer.MIN_VALUE;
    private static final int HIGH = Integer.MAX_VALUE;

    private static final Checks CHECKS = new Checks("BoundsTest");

    interface Maker {
        int make(RowLineage x);
    }

    public static void main(String[] args) {
        fourSources();
        columnsOfASource();
        thirtySixRowsInOneSource();
        thirtySixRowsInAllSources();
        numbersOf32Bits();
        presentAtFirst();
        bitsOfSets();
        sixteenNodes();
        sixColumnsByCols();
        sixColumnsByJoin();
        termHolds();
        waysHold();
        absorbedByEither();
        absorbedByBoth();
        termsByNeeds();
        termsByLacks();
        noRowInBothSets();
        falseIsNone();
        notOfTerms();
        CHECKS.end();
    }

    private static void due(String call, Object got, Object want) {
        CHECKS.due(call, got, want);
    }

    /** "SOURCES 0, 1, .. (4 at most)" */
    private static void fourSources() {
        RowLineage x = new RowLineage();
        for (int s = 0; s < 4; s++) {
            due("told(0)", x.told(0), s);
            due("source " + s, x.source(4 - s), s);
        }
        due("a fifth", x.source(1), FULL);
        due("told(0)", x.told(0), 4);
        for (int s = 0; s < 4; s++) {
            due("each keeps its COLUMNS", x.columns(x.scan(s)), 4 - s);
        }
    }

    /** "have 1 to 4 COLUMNS"; "with the first of these numbers (as many as it has COLUMNS)" */
    private static void columnsOfASource() {
        String[] wants = {"1: 1 [+0][+1][+2][+3][+4]", "2: 1,2 [+0][+1][+2][+3]; 1,9 [+4]",
            "3: 1,2,3 [+0][+1][+2]; 1,2,9 [+3]; 1,9,3 [+4]",
            "4: 1,2,3,4 [+0][+1]; 1,2,3,9 [+2]; 1,2,9,4 [+3]; 1,9,3,4 [+4]"};
        for (int columns = 0; columns <= 5; columns++) {
            RowLineage x = new RowLineage();
            boolean fits = columns >= 1 && columns <= 4;
            due("source(" + columns + ")", x.source(columns), fits ? 0 : BAD);
            due("told(0)", x.told(0), fits ? 1 : 0);
            if (fits) {
                x.row(0, 1, 2, 3, 4);
                x.row(0, 1, 2, 3, 4);
                x.row(0, 1, 2, 3, 9);
                x.row(0, 1, 2, 9, 4);
                x.row(0, 1, 9, 3, 4);
                due("columns", x.columns(x.scan(0)), columns);
                due("its TUPLES", Shown.run(x, 0), wants[columns - 1]);
            }
        }
    }

    /** "ROWS 0, 1, .. (36 at most ..)" */
    private static void thirtySixRowsInOneSource() {
        RowLineage x = new RowLineage();
        x.source(1);
        x.scan(0);
        for (int r = 0; r < 36; r++) {
            due("told(1)", x.told(1), r);
            due("row " + r, x.row(0, -r, 0, 0, 0), r);
        }
        due("a TUPLE of each", x.run(0), 36);
        due("a 37th", x.row(0, 1, 0, 0, 0), FULL);
        due("told(1)", x.told(1), 36);
        due("THE RESULT stays", x.told(3), 36);
        due("the first", Shown.term(x.way(0, 0, 0), x.way(0, 0, 1)), "[+35]");
        due("the last", Shown.term(x.way(35, 0, 0), x.way(35, 0, 1)), "[+0]");
        due("run again", x.run(0), 36);
    }

    /** ".. in all sources together" */
    private static void thirtySixRowsInAllSources() {
        RowLineage x = new RowLineage();
        for (int s = 0; s < 4; s++) {
            x.source(1);
            x.scan(s);
        }
        for (int r = 0; r < 36; r++) {
            due("row " + r, x.row(r % 4, r / 12, 0, 0, 0), r);
        }
        for (int s = 0; s < 4; s++) {
            due("a 37th in source " + s, x.row(s, 0, 0, 0, 0), FULL);
        }
        due("the last source", Shown.run(x, 3), "3: 0 [+3][+7][+11]; 1 [+15][+19][+23]; 2 [+27][+31][+35]");
    }

    /** "a whole number of 32 bits in each"; "they stand by their first numbers, of like ones by the second, .." */
    private static void numbersOf32Bits() {
        RowLineage x = Scenes.pairs(1, 0, HIGH, LOW, 0, 0, LOW, HIGH, -1, 0, HIGH, HIGH, LOW, LOW, HIGH - 1, 0,
            LOW + 1, 0, LOW, -1, LOW, 0);
        due("in order", Shown.run(x, 0), "11: " + LOW + "," + LOW + " [+6]; " + LOW + ",-1 [+9]; " + LOW + ",0 [+10]; "
            + LOW + "," + HIGH + " [+3]; " + (LOW + 1) + ",0 [+8]; -1,0 [+4]; 0,0 [+2]; 1,0 [+0]; " + (HIGH - 1)
            + ",0 [+7]; " + HIGH + "," + LOW + " [+1]; " + HIGH + "," + HIGH + " [+5]");
        RowLineage y = new RowLineage();
        y.source(3);
        y.row(0, 1, 1, HIGH, 0);
        y.row(0, 1, 1, LOW, 0);
        y.row(0, 1, LOW, 9, 0);
        int six = y.join(y.scan(0), 0, 0, 0);
        due("by the last of six", Shown.run(y, six), "9: 1," + LOW + ",9,1," + LOW + ",9 [+2]; "
            + "1," + LOW + ",9,1,1," + LOW + " [+1+2]; 1," + LOW + ",9,1,1," + HIGH + " [+0+2]; "
            + "1,1," + LOW + ",1," + LOW + ",9 [+1+2]; 1,1," + LOW + ",1,1," + LOW + " [+1]; "
            + "1,1," + LOW + ",1,1," + HIGH + " [+0+1]; "
            + "1,1," + HIGH + ",1," + LOW + ",9 [+0+2]; 1,1," + HIGH + ",1,1," + LOW + " [+0+1]; "
            + "1,1," + HIGH + ",1,1," + HIGH + " [+0]");
    }

    /** "A ROW is PRESENT (at first), or DROPPED" */
    private static void presentAtFirst() {
        RowLineage x = Scenes.crowd(12, 12, 12);
        due("all are PRESENT", x.told(5), 36);
        for (int r = 0; r < 36; r++) {
            due("PRESENT at first: " + r, x.drop(r, false), 0);
            due("DROPPED: " + r, x.drop(r, true), 1);
            due("DROPPED already: " + r, x.drop(r, true), 0);
            due("told(5)", x.told(5), 35 - r);
        }
        for (int r = 35; r >= 0; r--) {
            due("PRESENT again: " + r, x.drop(r, false), 1);
            due("told(5)", x.told(5), 36 - r);
        }
    }

    /** "Sets of ROWS are numbers of 64 bits (bit r: ROW r)" */
    private static void bitsOfSets() {
        RowLineage x = Scenes.crowd(1);
        x.source(1);
        x.scan(1);
        for (int r = 1; r < 36; r++) {
            x.row(1, r, 0, 0, 0);
        }
        x.run(1);
        for (int r = 1; r < 36; r++) {
            due("bit " + r, x.way(r - 1, 0, 0), 1L << r);
            due("under it alone", x.under(r - 1, 1L << r), 1);
            due("under all others", x.under(r - 1, ((1L << 36) - 1) & ~(1L << r)), 0);
        }
        for (int r : new int[] {30, 31, 32, 33, 35}) {
            x.drop(r, true);
            due("drop of " + r + " drops just it", x.holds(r - 1) + " " + x.told(4), "0 34");
            due("forward of it", x.forward(r), 1);
            x.drop(r, false);
        }
    }

    /** "NODES 0, 1, .. (16 at most)": by each OPERATOR. */
    private static void sixteenNodes() {
        Maker[] operators = {x -> x.scan(0), x -> x.pick(0, 0, 1, NONE, 3), x -> x.cols(0, 12), x -> x.join(0, 0, 0, 0),
            x -> x.unite(0, 0), x -> x.minus(0, 0), x -> x.fold(0, 0, 1, 0)};
        for (int o = 0; o < operators.length; o++) {
            RowLineage x = Scenes.pairs(3, 4);
            for (int n = 1; n < 14; n++) {
                x.scan(0);
            }
            due("the 15th, operator " + o, operators[o].make(x), 14);
            due("the 16th, operator " + o, operators[o].make(x), 15);
            due("a 17th, operator " + o, operators[o].make(x), FULL);
            due("told(2)", x.told(2), 16);
            due("run(15), operator " + o, x.run(15), o == 5 ? 0 : 1);
            due("columns(16)", x.columns(16), NONE);
        }
    }

    /** "COLUMNS 0, 1, .. (6 at most)"; "digit 1 is COLUMN 0, ..; 1 to 6 digits" */
    private static void sixColumnsByCols() {
        RowLineage x = new RowLineage();
        x.source(3);
        x.row(0, 7, 8, 9, 0);
        x.scan(0);
        due("6 COLUMNS", x.columns(x.join(0, 0, 0, 0)), 6);
        int[] digits = {1, 6, 61, 16, 54321, 654321, 123456, 666666};
        String[] wants = {"7", "9", "7,9", "9,7", "7,8,9,7,8", "7,8,9,7,8,9", "9,8,7,9,8,7", "9,9,9,9,9,9"};
        for (int d = 0; d < digits.length; d++) {
            due("cols " + digits[d], Shown.run(x, x.cols(1, digits[d])), "1: " + wants[d] + " [+0]");
            due("its COLUMNS", x.columns(2 + d), ("" + digits[d]).length());
        }
        for (int bad : new int[] {0, 1000000, 1111111, 6543211}) {
            due("cols " + bad, x.cols(1, bad), BAD);
        }
        for (int none : new int[] {7, 71, 17, 777777, 999999}) {
            due("cols " + none, x.cols(1, none), NONE);
        }
    }

    /** "BAD: together more than 6 COLUMNS": all pairs of 1 to 6 COLUMNS. */
    private static void sixColumnsByJoin() {
        for (int a = 1; a <= 6; a++) {
            RowLineage x = new RowLineage();
            x.source(1);
            x.row(0, 4, 0, 0, 0);
            x.scan(0);
            for (int width = 2; width <= 6; width++) {
                due("a node of " + width, x.columns(x.cols(0, (int) (111111L % Math.pow(10, width)))), width);
            }
            for (int b = 1; b <= 6; b++) {
                int nodes = x.told(2);
                due("join of " + a + " and " + b, x.join(a - 1, b - 1, a - 1, b - 1), a + b > 6 ? BAD : nodes);
                due("told(2)", x.told(2), a + b > 6 ? nodes : nodes + 1);
                due("its COLUMNS", x.columns(nodes), a + b > 6 ? NONE : a + b);
                due("run", x.run(nodes), a + b > 6 ? NONE : 1);
            }
        }
    }

    /** "it HOLDS if all of the first are PRESENT, and none of the second" */
    private static void termHolds() {
        RowLineage x = Scenes.crowd(1, 1, 1, 1);
        int needed = x.cols(x.join(0, 1, 0, 0), 1);
        x.run(x.minus(x.minus(needed, 2), 3));
        due("one TERM", Shown.result(x, 1), "5 [+0+1-2-3]");
        for (int set = 0; set < 16; set++) {
            for (int r = 0; r < 4; r++) {
                x.drop(r, (set >> r & 1) == 0);
            }
            due("holds with " + set, x.holds(0), set == 3 ? 1 : 0);
            due("under " + set, x.under(0, set), set == 3 ? 1 : 0);
            due("made with " + set, x.made(0), set == 3 ? 0 : NONE);
            due("told(4)", x.told(4), set == 3 ? 1 : 0);
        }
    }

    /** "it HOLDS if one of them does": the first, the last of twelve, more than one, none. */
    private static void waysHold() {
        RowLineage x = Scenes.crowd(12, 1);
        x.run(0);
        due("all", x.holds(0) + " " + x.made(0), "1 0");
        for (int r = 0; r < 11; r++) {
            x.drop(r, true);
            due("without the first " + (r + 1), x.holds(0) + " " + x.made(0), "1 " + (r + 1));
        }
        x.drop(11, true);
        due("none", x.holds(0) + " " + x.made(0), "0 -1");
        x.drop(0, false);
        due("the first alone", x.holds(0) + " " + x.made(0), "1 0");
    }

    /** "TERM a ABSORBS TERM b if they are not the same, and a's NEEDS and LACKS are within b's .. left out" */
    private static void absorbedByEither() {
        RowLineage x = Scenes.crowd(1, 1, 1);
        int ab = x.cols(x.join(0, 1, 0, 0), 1);
        int ac = x.cols(x.join(0, 2, 0, 0), 1);
        int ba = x.cols(x.join(1, 0, 0, 0), 1);
        due("the same", Shown.run(x, x.unite(ab, ba)), "1: 5 [+0+1]");
        due("the later one is absorbed", Shown.run(x, x.unite(0, ab)), "1: 5 [+0]");
        due("the earlier one is absorbed", Shown.run(x, x.unite(ab, 0)), "1: 5 [+0]");
        int two = x.unite(ab, ac);
        due("neither", Shown.run(x, two), "1: 5 [+0+1][+0+2]");
        due("several are absorbed", Shown.run(x, x.unite(two, 0)), "1: 5 [+0]");
        RowLineage y = Scenes.crowd(1, 1, 1);
        int aWithoutC = y.minus(0, 2);
        int aWithoutBC = y.minus(aWithoutC, 1);
        int abWithoutC = y.minus(y.cols(y.join(0, 1, 0, 0), 1), 2);
        int withB = y.cols(y.join(0, 1, 0, 0), 1);
        due("by fewer LACKS", Shown.run(y, y.unite(aWithoutC, aWithoutBC)), "1: 5 [+0-2]");
        due("by fewer LACKS, the earlier one", Shown.run(y, y.unite(aWithoutBC, aWithoutC)), "1: 5 [+0-2]");
        due("by fewer NEEDS", Shown.run(y, y.unite(abWithoutC, aWithoutC)), "1: 5 [+0-2]");
        due("NEEDS are within, LACKS are not", Shown.run(y, y.unite(aWithoutC, withB)), "1: 5 [+0-2][+0+1]");
        due("a ROW both ways is no TRUE", Shown.run(y, y.unite(y.minus(0, 1), withB)), "1: 5 [+0-1][+0+1]");
    }

    /** The same behind BOTH. */
    private static void absorbedByBoth() {
        RowLineage x = Scenes.crowd(1, 1, 1);
        int either = x.unite(0, 1);
        due("a and (a or b)", Shown.run(x, x.cols(x.join(0, either, 0, 0), 1)), "1: 5 [+0]");
        due("(a or b) and a", Shown.run(x, x.cols(x.join(either, 0, 0, 0), 1)), "1: 5 [+0]");
        int other = x.unite(1, 2);
        due("(a or b) and (b or c)", Shown.run(x, x.cols(x.join(either, other, 0, 0), 1)), "1: 5 [+1][+0+2]");
        int without = x.minus(either, 2);
        due("(a or b) without c", Shown.run(x, without), "1: 5 [+0-2][+1-2]");
        due("and (b or c)", Shown.run(x, x.cols(x.join(without, other, 0, 0), 1)), "1: 5 [+1-2]");
    }

    /** "TERMS of a WAYS stand by their NEEDS as numbers" */
    private static void termsByNeeds() {
        RowLineage x = new RowLineage();
        x.source(1);
        x.scan(0);
        for (int r = 0; r < 36; r++) {
            boolean isOne = r == 0 || r == 1 || r == 30 || r == 31 || r == 32 || r == 35;
            x.row(0, isOne ? 5 : 100 + r, 0, 0, 0);
        }
        x.run(0);
        due("single ROWS", Shown.result(x, 1).substring(0, 32), "5 [+0][+1][+30][+31][+32][+35]; ");
        RowLineage y = Scenes.pairs(5, 0, 5, 0, 5, 1, 5, 2, 5, 2);
        int pairs = y.pick(y.join(0, 0, 0, 0), 1, 0, 3, 0);
        due("the highest ROW of a pair counts most", Shown.run(y, y.cols(pairs, 1)),
            "1: 5 [+0+2][+1+2][+0+3][+1+3][+2+3][+0+4][+1+4][+2+4]");
    }

    /** ".. of like ones by their LACKS" */
    private static void termsByLacks() {
        RowLineage x = new RowLineage();
        x.source(1);
        x.source(1);
        x.source(1);
        int[] numbers = new int[36];
        numbers[0] = 1;
        numbers[31] = 2;
        numbers[32] = 3;
        for (int r = 0; r < 36; r++) {
            x.row(Math.max(numbers[r] - 1, 0), numbers[r] > 0 ? 5 : 100 + r, 0, 0, 0);
        }
        x.scan(0);
        x.scan(1);
        x.scan(2);
        int without32 = x.minus(0, 2);
        int without31 = x.minus(0, 1);
        int five = x.pick(x.unite(without32, without31), 0, 1, NONE, 5);
        due("31 before 32", Shown.run(x, five), "1: 5 [+0-31][+0-32]");
        int both = x.cols(x.join(1, 2, 0, 0), 1);
        due("turned", Shown.run(x, x.pick(x.minus(0, both), 0, 1, NONE, 5)), "1: 5 [+0-31][+0-32]");
        RowLineage y = Scenes.pairs(1, 1, 1, 2, 1, 3);
        due("NEEDS first", Shown.run(y, y.fold(0, 0, 1, 0)),
            "3: 1,1 [+0-1-2][-0+1-2][-0-1+2]; 1,2 [+0+1-2][+0-1+2][-0+1+2]; 1,3 [+0+1+2]");
    }

    /** "BOTH: .. if no ROW is in both sets then" */
    private static void noRowInBothSets() {
        RowLineage x = Scenes.crowd(1, 1, 1);
        int aWithoutB = x.minus(0, 1);
        due("a without b, and b", Shown.run(x, x.join(aWithoutB, 1, 0, 0)), "0: ");
        due("b, and a without b", Shown.run(x, x.join(1, aWithoutB, 0, 0)), "0: ");
        due("a without a", Shown.run(x, x.minus(0, 0)), "0: ");
        int either = x.unite(1, 2);
        due("one of two TERMS is left", Shown.run(x, x.cols(x.join(aWithoutB, either, 0, 0), 1)), "1: 5 [+0-1+2]");
    }

    /** "Those whose WAYS comes out as FALSE are none": for the nodes made of them, too. */
    private static void falseIsNone() {
        RowLineage x = Scenes.crowd(1, 1);
        int none = x.minus(0, 0);
        due("FALSE is not there: unite", Shown.run(x, x.unite(none, 1)), "1: 5 [+1]");
        due("FALSE is not there: minus", Shown.run(x, x.minus(1, none)), "1: 5 [+1]");
        due("FALSE is not there: from it", Shown.run(x, x.minus(none, 1)), "0: ");
        due("FALSE is not there: fold", Shown.run(x, x.fold(none, 0, 0, 0)), "0: ");
        due("FALSE is not there: cols", Shown.run(x, x.cols(none, 11)), "0: ");
        due("FALSE is not there: pick", Shown.run(x, x.pick(none, 0, 1, 0, 0)), "0: ");
        due("FALSE is not there: join", Shown.run(x, x.join(1, none, 0, 0)), "0: ");
        RowLineage one = new RowLineage();
        one.source(3);
        one.row(0, 1, 1, 2, 0);
        one.scan(0);
        int twins = one.unite(one.cols(0, 21), one.cols(0, 31));
        due("two TUPLES of one ROW", Shown.run(one, twins), "2: 1,1 [+0]; 1,2 [+0]");
        due("never one without the other", Shown.run(one, one.fold(twins, 0, 1, 1)), "1: 1,3 [+0]");
        RowLineage y = Scenes.pairs(1, 1);
        y.source(2);
        y.row(1, 1, 2, 0, 0);
        int only = y.cols(y.join(0, y.scan(1), 0, 0), 41);
        int together = y.unite(0, only);
        due("one needs the other", Shown.run(y, together), "2: 1,1 [+0]; 1,2 [+0+1]");
        due("never the second without the first", Shown.run(y, y.fold(together, 0, 1, 1)), "2: 1,1 [+0-1]; 1,3 [+0+1]");
    }

    /** "NOT of one: TRUE at first; then for each of its TERMS, in order, BOTH .. of that TERM's TURNS" */
    private static void notOfTerms() {
        RowLineage x = Scenes.crowd(1, 1, 1, 1);
        due("of a need", Shown.run(x, x.minus(3, 0)), "1: 5 [-0+3]");
        int ab = x.cols(x.join(0, 1, 0, 0), 1);
        due("of two needs", Shown.run(x, x.minus(3, ab)), "1: 5 [-0+3][-1+3]");
        int aWithoutB = x.minus(0, 1);
        due("of a need and a lack", Shown.run(x, x.minus(3, aWithoutB)), "1: 5 [-0+3][+1+3]");
        due("of two TERMS", Shown.run(x, x.minus(3, x.unite(ab, 2))), "1: 5 [-0-2+3][-1-2+3]");
        due("of a ROW both ways", Shown.run(x, x.minus(3, x.unite(ab, aWithoutB))), "1: 5 [-0+3]");
    }

    private BoundsTest() {
    }
}
