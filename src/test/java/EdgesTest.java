/** The edges of each promise that are no refusals: the least and the greatest number, empty, all, the other way. */
public final class EdgesTest {
    private static final int NONE = RowLineage.NONE;
    private static final int FULL = RowLineage.FULL;
    private static final int LOW = Integer.MIN_VALUE;
    private static final int HIGH = Integer.MAX_VALUE;

    private static final Checks CHECKS = new Checks("EdgesTest");

    public static void main(String[] args) {
        promise3WhatNodesGaveIsGone();
        promise3DroppedRowsStaySo();
        promise4EmptySource();
        promise4To10MakingANodeKeepsTheResult();
        promise5BelowLikeAbove();
        promise5FarNumbers();
        promise5Other();
        promise7FarNumbers();
        promise10SumOf32Bits();
        promise10LeastAndGreatest();
        promise10AlikeSums();
        promise10Groups();
        promise12EmptyParts();
        promise12TheResultIsTheLastOne();
        promise16DropKeepsWays();
        promise18FirstThatHolds();
        promise20AllAndNone();
        promise21LeastAndMost();
        promise22RowsOfNoMatter();
        promise22RowsOfNoMatterBesideOthers();
        promise23LeastAndMost();
        promise23FewestToHold();
        promise24AtTheLimits();
        promise25AsNew();
        promise25NothingComesBack();
        promise25AtTheLimits();
        CHECKS.end();
    }

    private static void due(String call, Object got, Object want) {
        CHECKS.due(call, got, want);
    }

    /** "What nodes gave is gone": for every node, whichever source the row is of. */
    private static void promise3WhatNodesGaveIsGone() {
        RowLineage x = Scenes.crowd(1, 1);
        int without = x.minus(0, 1);
        due("3 before", Shown.run(x, without), "1: 5 [+0-1]");
        due("3 row of the second", x.row(1, 5, 0, 0, 0), 2);
        due("3 gone", x.told(3) + " " + x.told(4) + " " + x.ways(0) + " " + x.forward(0), "0 0 -1 0");
        due("3 the second gives it", Shown.run(x, without), "1: 5 [+0-1-2]");
        due("3 row of the first", x.row(0, 6, 0, 0, 0), 3);
        due("3 the first gives it", Shown.run(x, without), "2: 5 [+0-1-2]; 6 [+3]");
        due("3 nodes stay", x.told(2) + " " + x.columns(without), "3 1");
        due("3 another source", x.source(1), 2);
        due("3 a source changes nothing", x.told(3), 2);
        due("3 row of it", x.row(2, 6, 0, 0, 0), 4);
        due("3 gone", x.told(3), 0);
        due("3 as before", Shown.run(x, without), "2: 5 [+0-1-2]; 6 [+3]");
    }

    private static void promise3DroppedRowsStaySo() {
        RowLineage x = Scenes.crowd(2);
        x.drop(0, true);
        x.row(0, 5, 0, 0, 0);
        due("3 told(5)", x.told(5), 2);
        x.run(0);
        due("3 made", x.made(0), 1);
        due("3 it is DROPPED", x.drop(0, true), 0);
        due("3 the new one is PRESENT", x.drop(2, false), 0);
    }

    private static void promise4EmptySource() {
        RowLineage x = new RowLineage();
        for (int columns = 1; columns <= 4; columns++) {
            x.source(columns);
            due("4 no ROW", Shown.run(x, x.scan(columns - 1)), "0: ");
            due("4 its COLUMNS", x.columns(columns - 1), columns);
            due("4 told", Still.tolds(x), columns + " 0 " + columns + " 0 0 0");
        }
    }

    private static void promise4To10MakingANodeKeepsTheResult() {
        RowLineage x = Scenes.middle();
        String before = "5 [+0-3-4][+2-3-4]; 6 [+1]";
        due("the RESULT", Shown.result(x, 1), before);
        int[] made = {x.scan(0), x.pick(0, 0, 0, NONE, 0), x.cols(0, 1), x.join(0, 1, 0, 0), x.unite(0, 0),
            x.minus(0, 0), x.fold(0, 0, 0, 0)};
        for (int n = 0; n < made.length; n++) {
            due("a node", made[n], 7 + n);
        }
        due("the RESULT stays", Shown.result(x, 1), before);
    }

    /** "a COLUMN is below, like, or above a number": one below it, like it, one above it. */
    private static void promise5BelowLikeAbove() {
        for (int v : new int[] {-5, -1, 0, 1, 7}) {
            RowLineage x = Scenes.pairs(v - 1, 0, v, 0, v + 1, 0);
            due("5 below " + v, Shown.run(x, x.pick(0, 0, 0, NONE, v)), "1: " + (v - 1) + ",0 [+0]");
            due("5 like " + v, Shown.run(x, x.pick(0, 0, 1, NONE, v)), "1: " + v + ",0 [+1]");
            due("5 above " + v, Shown.run(x, x.pick(0, 0, 2, NONE, v)), "1: " + (v + 1) + ",0 [+2]");
        }
    }

    /** Numbers whose difference has no room in 32 bits. */
    private static void promise5FarNumbers() {
        int[] edges = {LOW, LOW + 1, -2, 0, 2, HIGH - 1, HIGH};
        String[] wants = {"0 1 4", "1 0 4", "1 1 3", "2 1 2", "3 1 1", "4 0 1", "4 1 0"};
        for (int e = 0; e < edges.length; e++) {
            RowLineage x = Scenes.pairs(LOW, 0, -2, 0, 0, 0, 2, 0, HIGH, 0);
            int below = x.run(x.pick(0, 0, 0, NONE, edges[e]));
            int like = x.run(x.pick(0, 0, 1, NONE, edges[e]));
            int above = x.run(x.pick(0, 0, 2, NONE, edges[e]));
            due("5 below, like, above " + edges[e], below + " " + like + " " + above, wants[e]);
        }
        RowLineage far = Scenes.pairs(LOW, HIGH, HIGH, LOW, LOW, LOW, HIGH, HIGH);
        due("5 below the other", Shown.run(far, far.pick(0, 0, 0, 1, 0)), "1: " + LOW + "," + HIGH + " [+0]");
        due("5 above the other", Shown.run(far, far.pick(0, 0, 2, 1, 0)), "1: " + HIGH + "," + LOW + " [+1]");
        due("5 like the other", far.run(far.pick(0, 0, 1, 1, 0)), 2);
    }

    /** "other = NONE: the number v, else COLUMN other": COLUMN 0 is one, too, and v is of no matter then. */
    private static void promise5Other() {
        RowLineage x = Scenes.pairs(1, 2, 2, 2, 3, 2);
        due("5 v", Shown.run(x, x.pick(0, 0, 1, NONE, 3)), "1: 3,2 [+2]");
        due("5 COLUMN 0", Shown.run(x, x.pick(0, 1, 1, 0, 3)), "1: 2,2 [+1]");
        due("5 COLUMN 1", Shown.run(x, x.pick(0, 0, 2, 1, 3)), "1: 3,2 [+2]");
        due("5 below itself", x.run(x.pick(0, 1, 0, 1, HIGH)), 0);
        due("5 like itself", x.run(x.pick(0, 1, 1, 1, HIGH)), 3);
        due("5 above itself", x.run(x.pick(0, 1, 2, 1, LOW)), 0);
        due("5 v is -1", x.run(x.pick(0, 0, 2, NONE, -1)), 3);
    }

    private static void promise7FarNumbers() {
        RowLineage x = Scenes.pairs(LOW, 1, HIGH, 2, 0, 3);
        due("7 each with itself alone", Shown.run(x, x.cols(x.join(0, 0, 0, 0), 4)), "3: 1 [+0]; 2 [+1]; 3 [+2]");
        due("7 by the last and the first", x.run(x.join(0, 0, 1, 0)), 0);
    }

    /** "1 their sum (of 32 bits)" */
    private static void promise10SumOf32Bits() {
        RowLineage up = Scenes.pairs(1, HIGH, 1, 1);
        due("10 HIGH and 1", Shown.run(up, up.fold(0, 0, 1, 1)),
            "3: 1," + LOW + " [+0+1]; 1,1 [-0+1]; 1," + HIGH + " [+0-1]");
        RowLineage at = Scenes.pairs(1, HIGH - 1, 1, 1);
        due("10 HIGH - 1 and 1", Shown.run(at, at.fold(0, 0, 1, 1)),
            "3: 1,1 [-0+1]; 1," + (HIGH - 1) + " [+0-1]; 1," + HIGH + " [+0+1]");
        RowLineage down = Scenes.pairs(1, LOW, 1, -1);
        due("10 LOW and -1", Shown.run(down, down.fold(0, 0, 1, 1)),
            "3: 1," + LOW + " [+0-1]; 1,-1 [-0+1]; 1," + HIGH + " [+0+1]");
        RowLineage four = new RowLineage();
        four.source(3);
        for (int r = 0; r < 4; r++) {
            four.row(0, 1, LOW, r, 0);
        }
        four.scan(0);
        due("10 LOW up to four times", Shown.run(four, four.pick(four.fold(0, 0, 1, 1), 1, 1, NONE, 0)),
            "1: 1,0 [+0+1-2-3][+0-1+2-3][-0+1+2-3][+0-1-2+3][-0+1-2+3][-0-1+2+3][+0+1+2+3]");
    }

    private static void promise10LeastAndGreatest() {
        RowLineage x = Scenes.pairs(1, HIGH, 1, LOW);
        due("10 least", Shown.run(x, x.fold(0, 0, 1, 2)), "2: 1," + LOW + " [-0+1][+0+1]; 1," + HIGH + " [+0-1]");
        due("10 greatest", Shown.run(x, x.fold(0, 0, 1, 3)), "2: 1," + LOW + " [-0+1]; 1," + HIGH + " [+0-1][+0+1]");
        RowLineage high = Scenes.pairs(1, HIGH);
        due("10 least of HIGH", Shown.run(high, high.fold(0, 0, 1, 2)), "1: 1," + HIGH + " [+0]");
        RowLineage low = Scenes.pairs(1, LOW);
        due("10 greatest of LOW", Shown.run(low, low.fold(0, 0, 1, 3)), "1: 1," + LOW + " [+0]");
    }

    /** "TUPLES that come out alike: EITHER of what was there and of the next" */
    private static void promise10AlikeSums() {
        RowLineage x = Scenes.pairs(1, 1, 1, 2, 1, 3);
        due("10 3 is 1 and 2, or 3", Shown.run(x, x.fold(0, 0, 1, 1)), "6: 1,1 [+0-1-2]; 1,2 [-0+1-2]; "
            + "1,3 [+0+1-2][-0-1+2]; 1,4 [+0-1+2]; 1,5 [-0+1+2]; 1,6 [+0+1+2]");
        RowLineage y = Scenes.pairs(1, 0, 1, 5);
        due("10 0 changes no sum", Shown.run(y, y.fold(0, 0, 1, 1)), "2: 1,0 [+0-1]; 1,5 [-0+1][+0+1]");
        RowLineage z = Scenes.pairs(1, 4, 1, -4);
        due("10 a sum of 0 is there, none is not", Shown.run(z, z.fold(0, 0, 1, 1)),
            "3: 1,-4 [-0+1]; 1,0 [+0+1]; 1,4 [+0-1]");
    }

    /** "(GROUPS by that number.)": those of other numbers are others; TUPLES stand in order all the same. */
    private static void promise10Groups() {
        RowLineage x = Scenes.pairs(3, HIGH, 1, LOW, 2, HIGH, 4, LOW);
        due("10 by the second", Shown.run(x, x.fold(0, 1, 0, 1)), "6: " + LOW + ",1 [+1-3]; " + LOW + ",4 [-1+3]; "
            + LOW + ",5 [+1+3]; " + HIGH + ",2 [-0+2]; " + HIGH + ",3 [+0-2]; " + HIGH + ",5 [+0+2]");
        due("10 by and of the same", Shown.run(x, x.fold(0, 1, 1, 3)), "2: " + LOW + "," + LOW
            + " [+1-3][-1+3][+1+3]; " + HIGH + "," + HIGH + " [+0-2][-0+2][+0+2]");
        RowLineage order = Scenes.pairs(9, 1, 8, 1, 7, 1);
        due("10 t0, t1, .. in order of the TUPLES", Shown.run(order, order.fold(0, 1, 0, 2)),
            "3: 1,7 [-0-1+2][+0-1+2][-0+1+2][+0+1+2]; 1,8 [-0+1-2][+0+1-2]; 1,9 [+0-1-2]");
    }

    private static void promise12EmptyParts() {
        RowLineage x = Scenes.crowd(1, 0);
        int[] empty = {x.pick(1, 0, 1, NONE, 5), x.cols(1, 1), x.join(0, 1, 0, 0), x.join(1, 0, 0, 0), x.unite(1, 1),
            x.minus(1, 0), x.minus(1, 1), x.fold(1, 0, 0, 0)};
        for (int node : empty) {
            due("12 run(" + node + ") of nothing", Shown.run(x, node), "0: ");
        }
        due("12 unite with nothing", Shown.run(x, x.unite(0, 1)), "1: 5 [+0]");
        due("12 unite of nothing", Shown.run(x, x.unite(1, 0)), "1: 5 [+0]");
        due("12 minus nothing", Shown.run(x, x.minus(0, 1)), "1: 5 [+0]");
    }

    private static void promise12TheResultIsTheLastOne() {
        RowLineage x = Scenes.middle();
        String[] wants = {"3: 1,5 [+0]; 1,6 [+1]; 2,5 [+2]", "1: 5 [+3][+4]", "1: 1,2,3 [+5]",
            "2: 5 [+0][+2]; 6 [+1]", "2: 5 [+0-3-4][+2-3-4]; 6 [+1]",
            "4: 1,5 [+0-1]; 1,6 [-0+1]; 1,11 [+0+1]; 2,5 [+2]", "1: 1,2,3,1,2,3 [+5]"};
        for (int node = 6; node >= 0; node--) {
            due("12 run(" + node + ")", Shown.run(x, node), wants[node]);
        }
        for (int node = 0; node <= 6; node++) {
            due("12 once more, run(" + node + ")", Shown.run(x, node), wants[node]);
        }
        due("12 COLUMNS are those of the last one", Shown.cell(x, 0, 5), "3");
        x.run(1);
        due("12 COLUMNS are those of the last one", Shown.cell(x, 0, 1), "IndexOutOfBoundsException");
        due("12 TUPLES are those of the last one", x.ways(1), NONE);
    }

    private static void promise16DropKeepsWays() {
        RowLineage x = Scenes.crowd(2, 1);
        x.run(x.minus(0, 1));
        String before = Shown.result(x, 1) + x.count(0) + mattering(x) + x.under(0, 3L);
        for (int r = 0; r < 3; r++) {
            due("16 drop", x.drop(r, true), 1);
            due("16 ways, count, matters and under stay",
                Shown.result(x, 1) + x.count(0) + mattering(x) + x.under(0, 3L), before);
            due("16 TUPLES stay", x.told(3), 1);
        }
        due("16 so does what is run", x.run(2), 1);
    }

    /** "The first of its TERMS that HOLDS": by its number among the TERMS, not by its row. */
    private static void promise18FirstThatHolds() {
        RowLineage x = Scenes.pairs(1, 1, 1, 2, 1, 3);
        x.run(x.fold(0, 0, 1, 0));
        due("18 one of three", Shown.result(x, 2).substring(0, 31), "1,1 [+0-1-2][-0+1-2][-0-1+2]; 1");
        for (int r = 0; r < 3; r++) {
            for (int other = 0; other < 3; other++) {
                x.drop(other, other != r);
            }
            due("18 row " + r + " alone", x.made(0), r);
            due("18 no two", x.made(1), NONE);
        }
        x.drop(1, false);
        due("18 rows 1 and 2", x.made(0) + " " + x.made(1) + " " + x.made(2), "-1 2 -1");
        x.drop(0, false);
        due("18 all", x.made(0) + " " + x.made(1) + " " + x.made(2), "-1 -1 0");
    }

    private static void promise20AllAndNone() {
        RowLineage x = new RowLineage();
        x.source(2);
        x.source(1);
        for (int r = 0; r < 20; r++) {
            x.row(0, 1, r, 0, 0);
        }
        x.row(1, 1, 0, 0, 0);
        x.run(x.join(x.scan(1), x.scan(0), 0, 0));
        due("20 all of twenty", x.forward(20), 20);
        due("20 one of twenty", x.forward(7), 1);
        x.drop(20, true);
        due("20 all of twenty, the other way", x.forward(20), 20);
        due("20 none: they don't hold", x.forward(7), 0);
        due("20 none holds still", x.told(4), 0);
        x.drop(20, false);
        x.drop(7, true);
        due("20 one the other way", x.forward(7), 1);
        due("20 all but one", x.forward(20), 19);
    }

    private static void promise21LeastAndMost() {
        RowLineage one = Scenes.crowd(1);
        one.run(0);
        due("21 one row", one.count(0), 1);
        due("21 one of twelve", Scenes.pairsAndSingles(0, 12).count(0), 4095);
        due("21 one pair", Scenes.pairsAndSingles(1, 0).count(0), 1);
        RowLineage lone = Scenes.crowd(1, 12, 3);
        lone.run(lone.minus(lone.minus(0, 1), 2));
        due("21 one TERM of 16 rows", lone.count(0), 1);
        lone.drop(0, true);
        due("21 whichever are DROPPED", lone.count(0), 1);
        RowLineage both = Scenes.crowd(1, 1);
        int with = both.cols(both.join(0, 1, 0, 0), 1);
        both.run(both.unite(with, both.minus(0, 1)));
        due("21 a row of no matter counts", both.count(0), 2);
    }

    /** Whether each row is of matter to TUPLE 0. */
    private static String mattering(RowLineage x) {
        StringBuilder text = new StringBuilder();
        for (int r = 0; r < x.told(1); r++) {
            text.append(r == 0 ? "" : " ").append(x.matters(0, r));
        }
        return text.toString();
    }

    /** A row may stand in TERMS and be of no matter; one that does not stand there never is. */
    private static void promise22RowsOfNoMatter() {
        RowLineage x = Scenes.crowd(1, 1, 1, 1);
        int with = x.cols(x.join(0, 1, 0, 0), 1);
        int all = x.unite(x.unite(with, x.minus(0, 1)), x.cols(x.join(2, 1, 0, 0), 1));
        x.run(all);
        due("22 TERMS", Shown.result(x, 1), "5 [+0-1][+0+1][+1+2]");
        due("22 each", mattering(x), "1 1 1 0");
        x.run(x.unite(all, x.minus(x.cols(x.join(2, 0, 0, 0), 1), 1)));
        due("22 absorbed", Shown.result(x, 1), "5 [+0-1][+0+1][+1+2]");
        RowLineage y = Scenes.crowd(1, 1, 1);
        int withB = y.cols(y.join(0, 1, 0, 0), 1);
        int withoutB = y.minus(0, 1);
        int withBC = y.cols(y.join(1, 2, 0, 0), 1);
        int cWithoutB = y.minus(2, 1);
        y.run(y.unite(y.unite(withB, withoutB), y.unite(withBC, cWithoutB)));
        due("22 TERMS", Shown.result(y, 1), "5 [+0-1][+0+1][-1+2][+1+2]");
        due("22 each", mattering(y), "1 0 1");
    }

    /** The same beside TERMS without that row, and with TERMS that lack others. */
    private static void promise22RowsOfNoMatterBesideOthers() {
        RowLineage x = Scenes.crowd(1, 1, 1, 1);
        int cBothWays = x.unite(x.cols(x.join(1, 2, 0, 0), 1), x.minus(2, 1));
        int all = x.unite(0, cBothWays);
        x.run(all);
        due("22 TERMS", Shown.result(x, 1), "5 [+0][-1+2][+1+2]");
        due("22 each", mattering(x), "1 0 1 0");
        x.run(3);
        x.run(x.minus(2, 3));
        due("22 another RESULT", mattering(x), "0 0 1 1");
        x.run(all);
        due("22 again", mattering(x), "1 0 1 0");
        x.run(x.minus(cBothWays, 0));
        due("22 TERMS with lacks", Shown.result(x, 1), "5 [-0-1+2][-0+1+2]");
        due("22 each", mattering(x), "1 0 1 0");
        x.run(x.minus(x.unite(0, cBothWays), 3));
        due("22 TERMS with lacks", Shown.result(x, 1), "5 [+0-3][-1+2-3][+1+2-3]");
        due("22 each", mattering(x), "1 0 1 1");
    }

    private static void promise23LeastAndMost() {
        for (int rows = 1; rows <= 12; rows++) {
            RowLineage x = Scenes.crowd(rows, 1);
            x.run(0);
            due("23 each of " + rows, x.blame(0), rows);
            x.run(x.minus(1, 0));
            due("23 each that it lacks of " + rows, x.blame(0), rows);
            due("23 nothing is DROPPED by asking", x.told(5), rows + 1);
        }
        RowLineage y = Scenes.crowd(1, 1);
        y.run(y.minus(0, 1));
        y.drop(0, true);
        due("23 what it needs is DROPPED already", y.blame(0), NONE);
        y.drop(1, true);
        due("23 both are", y.blame(0), NONE);
        y.drop(0, false);
        due("23 it holds", y.blame(0), 1);
        RowLineage z = Scenes.pairs(1, 1, 1, 2);
        z.run(z.fold(0, 0, 1, 0));
        z.drop(0, true);
        due("23 one there, one to be dropped", z.blame(0), 1);
        due("23 two never come by dropping", z.blame(1), NONE);
        RowLineage next = Scenes.crowd(1, 1, 1);
        int any = next.unite(next.minus(0, 1), next.cols(next.join(1, 2, 0, 0), 1));
        next.run(any);
        due("23 another TERM holds when one breaks", Shown.result(next, 1), "5 [+0-1][+1+2]");
        due("23 row 2 is dropped, not row 1", next.blame(0), 1);
        RowLineage chain = Scenes.crowd(1, 1);
        chain.run(chain.unite(1, chain.minus(0, 1)));
        due("23 breaking one makes the other", Shown.result(chain, 1) + " " + chain.blame(0), "5 [+0-1][+1] 2");
    }

    /** "at least": of TERMS that could be made to hold the one that lacks the fewest PRESENT rows. */
    private static void promise23FewestToHold() {
        for (int one = 1; one <= 3; one++) {
            for (int two = 1; two <= 3; two++) {
                RowLineage x = Scenes.crowd(1, 1, one, two);
                x.run(x.unite(x.minus(0, 2), x.minus(1, 3)));
                due("23 two TERMS", x.ways(0), 2);
                due("23 the fewer of " + one + " and " + two, x.blame(0), Math.min(one, two));
                x.drop(0, true);
                due("23 the other of " + one + " and " + two, x.blame(0), two);
                x.drop(1, true);
                due("23 none of " + one + " and " + two, x.blame(0), NONE);
                x.drop(0, false);
                due("23 the first of " + one + " and " + two, x.blame(0), one);
                x.drop(2, true);
                due("23 one DROPPED already", x.blame(0), one == 1 ? 1 : one - 1);
            }
        }
    }

    private static RowLineage atTheLimits(RowLineage x) {
        for (int s = 0; s < 4; s++) {
            x.source(s == 1 ? 3 : 2);
        }
        for (int r = 0; r < 36; r++) {
            x.row(r < 8 ? 0 : r < 18 ? 1 : 3, 1, r, 0, 0);
        }
        x.scan(0);
        x.scan(1);
        x.join(0, 1, 0, 0);
        while (x.told(2) < 16) {
            x.scan(3);
        }
        x.run(2);
        return x;
    }

    private static void promise24AtTheLimits() {
        RowLineage x = atTheLimits(new RowLineage());
        due("24 all at their limits", Still.tolds(x), "4 36 16 80 80 36");
        x.drop(0, true);
        due("24 without ten", Still.tolds(x), "4 36 16 80 70 35");
        for (int r = 1; r < 8; r++) {
            x.drop(r, true);
        }
        due("24 without all", Still.tolds(x), "4 36 16 80 0 28");
        for (int r = 8; r < 36; r++) {
            x.drop(r, true);
        }
        due("24 none PRESENT", Still.tolds(x), "4 36 16 80 0 0");
    }

    /** "All is as at first": what is done afterwards answers as on a new object. */
    private static void promise25AsNew() {
        RowLineage x = Scenes.full();
        x.clear();
        due("25 now", Still.now(x), Still.now(new RowLineage()));
        due("25 later", Still.later(x), Still.later(new RowLineage()));
        RowLineage y = new RowLineage();
        y.clear();
        due("25 of a new one", Still.now(y), Still.now(new RowLineage()));
        due("25 of a new one, later", Still.later(y), Still.later(new RowLineage()));
        RowLineage z = Scenes.overfull();
        z.run(8);
        z.clear();
        for (int s = 0; s < 2; s++) {
            z.source(1);
            z.row(s, 5, 0, 0, 0);
            z.scan(s);
        }
        due("25 what was FULL is not", Shown.run(z, 1), "1: 5 [+1]");
        due("25 none is DROPPED", z.told(5) + " " + z.holds(0), "2 1");
    }

    /** No TUPLE of what was there before comes in again. */
    private static void promise25NothingComesBack() {
        RowLineage x = Scenes.larger();
        x.clear();
        Scenes.middleOn(x);
        due("25 now", Still.now(x), Still.now(Scenes.middle()));
        RowLineage y = Scenes.larger();
        y.clear();
        Scenes.middleOn(y);
        due("25 later", Still.later(y), Still.later(Scenes.middle()));
        RowLineage z = Scenes.larger();
        z.clear();
        z.source(1);
        for (int n = 0; n < 16; n++) {
            due("25 a node", z.scan(0), n);
            due("25 no RESULT", z.told(3) + " " + z.ways(0), "0 -1");
            due("25 no cell", Shown.cell(z, 0, 0), "IndexOutOfBoundsException");
        }
    }

    private static void promise25AtTheLimits() {
        RowLineage x = atTheLimits(new RowLineage());
        for (int r = 0; r < 36; r++) {
            x.drop(r, true);
        }
        x.clear();
        due("25 nothing", Still.tolds(x), "0 0 0 0 0 0");
        atTheLimits(x);
        due("25 as much as before", Still.tolds(x), "4 36 16 80 80 36");
        due("25 no more sources", x.source(1), FULL);
        due("25 no more rows", x.row(0, 0, 0, 0, 0), FULL);
        due("25 no more nodes", x.scan(0), FULL);
    }

    private EdgesTest() {
    }
}
