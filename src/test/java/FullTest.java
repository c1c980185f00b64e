/**
 * FULL, wherever the document says it: one below the limit, at it, and one beyond it. The document's words stand above
 * each test. (FULL for want of sources, rows and nodes stands in BoundsTest and RefusalsTest.)
 */
public final class FullTest {
    private static final int NONE = RowLineage.NONE;
    private static final int FULL = RowLineage.FULL;
    private static final int LOW = Integer.MIN_VALUE;
    private static final int HIGH = Integer.MAX_VALUE;

    private static final Checks CHECKS = new Checks("FullTest");

    public static void main(String[] args) {
        twelveTermsOfScan();
        twelveTermsOfUnite();
        twelveTermsOfCols();
        twelveTermsOfJoin();
        twelveTermsOfMinus();
        twelveTermsOfFoldBoth();
        twelveTermsOfFoldEither();
        twelveTurns();
        twelveTermsWithinNot();
        notInTheOrderOfTerms();
        asSoonAs();
        fullOfAPart();
        fullUntilARowIsNoMore();
        eightyTuplesOfJoin();
        eightyTuplesOfUnite();
        eightyTuplesOfFold();
        eightyTuplesTakenFurther();
        falseTuplesAreNotCounted();
        fourOfAGroup();
        fourTuplesOfMoreRows();
        sixteenRowsCounted();
        sixteenRowsOfMatter();
        sixteenRowsBlamed();
        sixteenRowsOfLacks();
        CHECKS.end();
    }

    private static void due(String call, Object got, Object want) {
        CHECKS.due(call, got, want);
    }

    /** The answer of run, and how many TERMS the last TUPLE of THE RESULT has. */
    private static String runAndWays(RowLineage x, int node) {
        int answer = x.run(node);
        return answer == FULL ? "FULL" : answer + " " + x.ways(answer - 1);
    }

    private static String fullOr(boolean fits, String otherwise) {
        return fits ? otherwise : "FULL";
    }

    /** "EITHER .. has more than 12 TERMS": scan. */
    private static void twelveTermsOfScan() {
        for (int rows = 11; rows <= 13; rows++) {
            RowLineage x = Scenes.crowd(rows);
            due("scan of " + rows, runAndWays(x, 0), fullOr(rows <= 12, "1 " + rows));
        }
    }

    /** unite: 12 of two, 13 of two, 12 that are in both. */
    private static void twelveTermsOfUnite() {
        for (int rows = 4; rows <= 6; rows++) {
            RowLineage x = Scenes.crowd(7, rows);
            due("unite of 7 and " + rows, runAndWays(x, x.unite(0, 1)), fullOr(rows <= 5, "1 " + (7 + rows)));
        }
        RowLineage x = Scenes.crowd(12, 1);
        due("unite of 12 and the same", runAndWays(x, x.unite(0, 0)), "1 12");
        due("unite of 12 and one", runAndWays(x, x.unite(0, 1)), "FULL");
        int within = x.cols(x.join(0, 1, 0, 0), 1);
        due("unite of 12 and 12 that are absorbed", runAndWays(x, x.unite(0, within)), "1 12");
        due("unite of 12 that are absorbed and 12", runAndWays(x, x.unite(within, 0)), "1 12");
        due("unite of 12 that are absorbed and one", runAndWays(x, x.unite(within, 1)), "1 1");
    }

    /** cols: TUPLES of 6 and of 5, 6, 7 ways come out alike. */
    private static void twelveTermsOfCols() {
        for (int rows = 5; rows <= 7; rows++) {
            RowLineage x = Scenes.pairs();
            for (int r = 0; r < 6 + rows; r++) {
                x.row(0, 1, r < 6 ? 1 : 2, 0, 0);
            }
            due("two TUPLES", x.run(0), 2);
            due("cols of 6 and " + rows, runAndWays(x, x.cols(0, 1)), fullOr(rows <= 6, "1 " + (6 + rows)));
            due("cols that keeps them apart", x.run(x.cols(0, 12)), 2);
        }
    }

    /** A WAYS of the shared row and p more, another of it and q more: 1 + p * q TERMS in BOTH. */
    private static RowLineage sharing(int p, int q) {
        RowLineage x = Scenes.crowd(1, p, q);
        x.unite(0, 1);
        x.unite(0, 2);
        return x;
    }

    /** "BOTH .. has more than 12 TERMS, behind leaving out": join. */
    private static void twelveTermsOfJoin() {
        int[][] sizes = {{1, 10}, {1, 11}, {3, 3}, {2, 5}, {3, 4}, {4, 3}, {2, 6}, {11, 1}, {11, 11}};
        for (int[] s : sizes) {
            RowLineage x = sharing(s[0], s[1]);
            int terms = 1 + s[0] * s[1];
            due("join of 1+" + s[0] + " and 1+" + s[1], runAndWays(x, x.join(3, 4, 0, 0)),
                fullOr(terms <= 12, "1 " + terms));
        }
        RowLineage x = Scenes.crowd(3, 4, 12);
        due("join of 3 and 4", runAndWays(x, x.join(0, 1, 0, 0)), "1 12");
        due("join of 12 and 12, 144 that leave 12", runAndWays(x, x.join(2, 2, 0, 0)), "1 12");
        due("join of 12 and 3", runAndWays(x, x.join(2, 0, 0, 0)), "FULL");
    }

    /** minus: p TERMS, and the shared row, without one TERM that has the shared row and q - 1 more: 1 + p * q. */
    private static void twelveTermsOfMinus() {
        int[][] sizes = {{2, 5}, {1, 10}, {1, 11}, {3, 3}, {3, 4}, {4, 3}};
        for (int[] s : sizes) {
            RowLineage x = Scenes.crowd(1, s[0], s[1] - 1, 1);
            int first = x.unite(0, 1);
            int turned = x.minus(x.minus(3, 0), 2);
            int terms = 1 + s[0] * s[1];
            due("minus of 1+" + s[0] + " and " + s[1] + " turns", runAndWays(x, x.minus(first, turned)),
                fullOr(terms <= 12, "1 " + terms));
        }
        RowLineage x = Scenes.crowd(3, 3, 1);
        due("minus of 3 and 4 turns", runAndWays(x, x.minus(0, x.minus(2, 1))), "1 12");
        RowLineage y = Scenes.crowd(7, 1, 1);
        due("minus of 7 and 2 turns", runAndWays(y, y.minus(0, y.minus(2, 1))), "FULL");
    }

    /** fold: of two TUPLES of a GROUP, that share a row and have p and q more. */
    private static void twelveTermsOfFoldBoth() {
        int[][] sizes = {{1, 10}, {1, 11}, {11, 1}, {3, 3}, {3, 4}, {4, 3}};
        for (int[] s : sizes) {
            RowLineage x = new RowLineage();
            x.source(3);
            x.source(2);
            x.row(0, 1, 1, 2, 0);
            for (int r = 0; r < s[0] + s[1]; r++) {
                x.row(1, 1, r < s[0] ? 1 : 2, 0, 0);
            }
            x.scan(0);
            int shared = x.unite(x.cols(0, 21), x.cols(0, 31));
            int group = x.unite(shared, x.scan(1));
            due("two TUPLES", runAndWays(x, group), "2 " + (1 + s[1]));
            int terms = 1 + s[0] * s[1];
            due("fold of 1+" + s[0] + " and 1+" + s[1], runAndWays(x, x.fold(group, 0, 1, 1)),
                fullOr(terms <= 12, "3 " + terms));
        }
    }

    /** fold: "TUPLES that come out alike: EITHER": one of the two, 1 + rows TERMS. */
    private static void twelveTermsOfFoldEither() {
        for (int rows = 10; rows <= 12; rows++) {
            RowLineage x = Scenes.pairs(1, 1);
            for (int r = 0; r < rows; r++) {
                x.row(0, 1, 2, 0, 0);
            }
            String want = fullOr(rows <= 11, "2 " + rows);
            due("fold, how many, of 1 and " + rows, runAndWays(x, x.fold(0, 0, 1, 0)), want);
            due("one of the two", x.ways(0), rows <= 11 ? (Object) (1 + rows) : NONE);
            due("fold, sum, of 1 and " + rows, runAndWays(x, x.fold(0, 0, 1, 1)), "3 " + rows);
            due("fold, least, of 1 and " + rows, runAndWays(x, x.fold(0, 0, 1, 2)), fullOr(rows <= 11, "2 " + rows));
        }
    }

    /** "(those within NOT, too)": a TERM of 11, 12, 13 rows has as many TURNS. */
    private static void twelveTurns() {
        for (int lacks = 10; lacks <= 12; lacks++) {
            RowLineage x = Scenes.crowd(1, lacks, 1);
            int without = x.minus(0, 1);
            due("one TERM", runAndWays(x, without), "1 1");
            due("its LACKS", Long.bitCount(x.way(0, 0, 1)), lacks);
            due("NOT of " + (1 + lacks) + " rows", runAndWays(x, x.minus(2, without)),
                fullOr(lacks <= 11, "1 " + (1 + lacks)));
        }
    }

    /** NOT of a TERM of 2 rows and one of 5, 6, 7: 10, 12, 14 TERMS; none of them in what both are taken from. */
    private static void twelveTermsWithinNot() {
        for (int lacks = 4; lacks <= 6; lacks++) {
            RowLineage x = Scenes.crowd(1, 1, 1, lacks);
            int together = x.unite(x.cols(x.join(0, 1, 0, 0), 1), x.minus(2, 3));
            due("two TERMS", runAndWays(x, together), "1 2");
            due("NOT of 2 and " + (1 + lacks), x.run(x.minus(together, together)), lacks <= 5 ? 0 : FULL);
        }
    }

    /**
     * "for each of its TERMS, in order": the TERMS [+b] and [+a-b-..] of 13 rows. If [+b] is first, one of the 13
     * TURNS has b both ways; if it is second, there are 13 before it comes.
     */
    private static void notInTheOrderOfTerms() {
        for (int first = 0; first <= 1; first++) {
            RowLineage x = new RowLineage();
            for (int s = 0; s < 4; s++) {
                x.source(1);
            }
            x.row(first == 0 ? 0 : 1, 5, 0, 0, 0);
            x.row(first == 0 ? 1 : 0, 5, 0, 0, 0);
            Scenes.likeRows(x, 2, 11, 5);
            x.row(3, 5, 0, 0, 0);
            for (int s = 0; s < 4; s++) {
                x.scan(s);
            }
            int many = x.minus(x.minus(1, 0), 2);
            int together = x.unite(many, 0);
            due("two TERMS", runAndWays(x, together), "1 2");
            due("b is row " + first, runAndWays(x, x.minus(3, together)), fullOr(first == 0, "1 12"));
        }
    }

    /** "as soon as": 13 ways of TUPLES that come out alike are FULL before the one that would absorb them comes. */
    private static void asSoonAs() {
        for (int absorbing = 0; absorbing <= 3; absorbing++) {
            RowLineage x = new RowLineage();
            x.source(2);
            x.source(2);
            for (int r = 0; r < 13; r++) {
                x.row(0, 1, r < 7 ? 1 : 2, 0, 0);
            }
            x.row(1, 1, absorbing, 0, 0);
            int joined = x.cols(x.join(x.scan(0), x.scan(1), 0, 0), 21);
            int all = x.unite(joined, 1);
            due("cols, the absorbing TUPLE has " + absorbing, runAndWays(x, x.cols(all, 1)),
                fullOr(absorbing <= 2, "1 1"));
        }
    }

    /** A node made of one that is FULL is FULL, even if it needs none of its TUPLES; others are not. */
    private static void fullOfAPart() {
        RowLineage x = Scenes.crowd(13, 1, 0);
        due("of no part", x.run(1), 1);
        int[] made = {x.pick(0, 0, 1, NONE, 77), x.cols(0, 1), x.join(2, 0, 0, 0), x.join(0, 2, 0, 0), x.unite(1, 0),
            x.unite(0, 1), x.minus(2, 0), x.minus(0, 2), x.fold(0, 0, 0, 0)};
        for (int node : made) {
            due("run(" + node + ")", x.run(node), FULL);
            due("THE RESULT stays", Shown.result(x, 1), "5 [+13]");
        }
        due("made of others", Shown.run(x, x.minus(1, 2)), "1: 5 [+13]");
        due("a part of a part", x.run(x.unite(1, made[0])), FULL);
    }

    /** A node that was FULL is so until all is cleared; one that was not can be by a new row. */
    private static void fullUntilARowIsNoMore() {
        RowLineage x = Scenes.crowd(12, 1);
        due("12 ways", x.run(0), 1);
        x.row(0, 6, 0, 0, 0);
        due("12 ways, and another TUPLE", x.run(0), 2);
        x.row(0, 5, 0, 0, 0);
        due("13 ways", x.run(0), FULL);
        due("no RESULT there", x.told(3), 0);
        for (int r = 0; r < 13; r++) {
            x.drop(r, true);
        }
        due("dropped rows count", x.run(0), FULL);
        due("the other", x.run(1), 1);
        x.clear();
        x.source(1);
        x.row(0, 5, 0, 0, 0);
        due("all is new", x.scan(0), 0);
        due("all is new", x.run(0), 1);
    }

    /** "a node's TUPLES are more than 80": 7 * 11 + 2, 3, 4. */
    private static RowLineage joined(int more) {
        RowLineage x = new RowLineage();
        x.source(2);
        x.source(2);
        for (int r = 0; r < 7; r++) {
            x.row(0, 1, r, 0, 0);
        }
        for (int r = 0; r < 11; r++) {
            x.row(1, 1, r, 0, 0);
        }
        for (int r = 0; r < more; r++) {
            x.row(0, 2, r, 0, 0);
        }
        x.row(1, 2, 0, 0, 0);
        x.scan(0);
        x.scan(1);
        x.join(0, 1, 0, 0);
        return x;
    }

    private static void eightyTuplesOfJoin() {
        for (int more = 2; more <= 4; more++) {
            RowLineage x = joined(more);
            due("join to " + (77 + more), x.run(2), more <= 3 ? 77 + more : FULL);
            due("told(3)", x.told(3), more <= 3 ? 77 + more : 0);
            due("the last one", Shown.cell(x, 79, 1), more == 3 ? "2" : "IndexOutOfBoundsException");
            due("one beyond", Shown.cell(x, 80, 1), "IndexOutOfBoundsException");
            due("one beyond has no ways", x.ways(80), NONE);
            due("all hold", x.told(4), x.told(3));
            due("pick of all", x.run(x.pick(2, 0, 2, NONE, LOW)), more <= 3 ? 77 + more : FULL);
            due("cols of all", x.run(x.cols(2, 4321)), more <= 3 ? 77 + more : FULL);
            due("pick of one", x.run(x.pick(2, 0, 2, NONE, HIGH)), more <= 3 ? 0 : FULL);
        }
    }

    private static void eightyTuplesOfUnite() {
        for (int more = 1; more <= 3; more++) {
            RowLineage x = joined(more);
            x.source(4);
            x.row(2, 9, 9, 9, 9);
            x.scan(2);
            due("unite to " + (78 + more), x.run(x.unite(2, 3)), more <= 2 ? 78 + more : FULL);
            due("unite, the other way round", x.run(x.unite(3, 2)), more <= 2 ? 78 + more : FULL);
            due("unite with itself", x.run(x.unite(2, 2)), 77 + more);
            due("minus of it", x.run(x.minus(2, 3)), 77 + more);
            due("minus itself", x.run(x.minus(2, 2)), 0);
        }
    }

    /** Five GROUPS of 15, one of 3, and 1, 2, 3 of one. */
    private static void eightyTuplesOfFold() {
        for (int more = 1; more <= 3; more++) {
            RowLineage x = Scenes.pairs(6, 1, 6, 2);
            for (int group = 1; group <= 5; group++) {
                for (int number = 1; number <= 8; number *= 2) {
                    x.row(0, group, number, 0, 0);
                }
            }
            for (int group = 0; group < more; group++) {
                x.row(0, -1 - group, 7, 0, 0);
            }
            due("fold to " + (78 + more), x.run(x.fold(0, 0, 1, 1)), more <= 2 ? 78 + more : FULL);
            due("fold, how many", x.run(x.fold(0, 0, 1, 0)), 5 * 4 + 2 + more);
        }
    }

    /** Each operator over 80 TUPLES: 20 times 4, of which fold makes 20 GROUPS with 4 numbers each. */
    private static void eightyTuplesTakenFurther() {
        RowLineage x = new RowLineage();
        x.source(2);
        x.source(2);
        x.source(1);
        for (int r = 0; r < 20; r++) {
            x.row(0, 1, r, 0, 0);
        }
        for (int r = 0; r < 4; r++) {
            x.row(1, 1, r, 0, 0);
        }
        x.row(2, 1, 0, 0, 0);
        for (int s = 0; s < 3; s++) {
            x.scan(s);
        }
        int eighty = x.join(0, 1, 0, 0);
        due("80", x.run(eighty), 80);
        due("fold of 80", x.run(x.fold(eighty, 1, 3, 0)), 80);
        due("fold of 80, with their sums", x.run(x.fold(eighty, 1, 3, 1)), FULL);
        due("fold of 80, by the other COLUMN", x.run(x.fold(eighty, 3, 1, 0)), FULL);
        due("join of 80", x.run(x.join(eighty, 2, 0, 0)), 80);
        due("join with 80", x.run(x.join(2, eighty, 0, 2)), 80);
        due("join of 80 that leaves some", x.run(x.join(eighty, 2, 3, 0)), 20);
        due("minus of 80", x.run(x.minus(eighty, x.pick(eighty, 3, 2, NONE, 1))), 40);
        due("cols of 80 to 20", x.run(x.cols(eighty, 2)), 20);
        due("cols of 80 to one", x.run(x.cols(eighty, 1)), FULL);
        due("pick of 80", x.run(x.pick(eighty, 1, 0, 3, 0)), 6);
    }

    /** "Those whose WAYS comes out as FALSE are none": 81 pairs, 80 TUPLES. */
    private static void falseTuplesAreNotCounted() {
        for (int last = 0; last <= 1; last++) {
            RowLineage x = new RowLineage();
            for (int s = 0; s < 3; s++) {
                x.source(2);
            }
            for (int r = 0; r < 9; r++) {
                x.row(0, 1, r, 0, 0);
            }
            for (int r = 1; r < 9; r++) {
                x.row(1, 1, r, 0, 0);
            }
            x.row(2, 1, last == 0 ? 0 : 9, 0, 0);
            for (int s = 0; s < 3; s++) {
                x.scan(s);
            }
            int first = x.minus(0, 2);
            int second = x.unite(1, 2);
            due("nine", x.run(first) + " " + x.run(second), "9 9");
            due("81 pairs", x.run(x.join(first, second, 0, 0)), last == 0 ? 80 : FULL);
        }
    }

    /** "are a GROUP (FULL: more than 4)" */
    private static void fourOfAGroup() {
        for (int kind = 0; kind <= 3; kind++) {
            for (int size = 1; size <= 5; size++) {
                RowLineage x = Scenes.pairs(9, 9);
                for (int r = 0; r < size; r++) {
                    x.row(0, -3, 1 << r, 0, 0);
                }
                int numbers = kind == 1 ? (1 << size) - 1 : size;
                int wanted = size <= 4 ? numbers + 1 : FULL;
                due("fold, kind " + kind + ", of " + size, x.run(x.fold(0, 0, 1, kind)), wanted);
                due("by the other COLUMN", x.run(x.fold(0, 1, 0, kind)), size + 1);
            }
        }
        RowLineage last = Scenes.pairs(1, 1, 2, 1, 2, 2, 2, 3, 2, 4);
        due("a GROUP of four behind another", last.run(last.fold(0, 0, 1, 0)), 5);
        last.row(0, 2, 5, 0, 0);
        due("a GROUP of five behind another", last.run(1), FULL);
    }

    /** A GROUP is of TUPLES, not of rows; and of TUPLES that can come, not of those that do. */
    private static void fourTuplesOfMoreRows() {
        RowLineage x = Scenes.pairs(1, 1, 1, 2, 1, 3, 1, 4, 1, 4);
        due("four TUPLES of five rows", x.run(x.fold(0, 0, 1, 2)), 4);
        due("the least, in 4 sets with one of two rows, in 4 without", x.ways(0), 12);
        x.row(0, 1, 5, 0, 0);
        x.drop(5, true);
        due("five TUPLES, one of a DROPPED row", x.run(1), FULL);
        due("four of the five", x.run(x.fold(x.pick(0, 1, 0, NONE, 5), 0, 1, 2)), 4);
    }

    /** "FULL: these ROWS are more than 16": 15, 16, 17. */
    private static void sixteenRowsCounted() {
        due("15: seven pairs, one single", Scenes.pairsAndSingles(7, 1).count(0), (1 << 15) - 2187);
        due("16: eight pairs", Scenes.pairsAndSingles(8, 0).count(0), (1 << 16) - 6561);
        due("16: seven pairs, two singles", Scenes.pairsAndSingles(7, 2).count(0), (1 << 16) - 2187);
        due("16: four pairs, eight singles", Scenes.pairsAndSingles(4, 8).count(0), (1 << 16) - 81);
        due("17: eight pairs, one single", Scenes.pairsAndSingles(8, 1).count(0), FULL);
        due("17: five pairs, seven singles", Scenes.pairsAndSingles(5, 7).count(0), FULL);
        due("18: nine pairs", Scenes.pairsAndSingles(9, 0).count(0), FULL);
        due("24: twelve pairs", Scenes.pairsAndSingles(12, 0).count(0), FULL);
        RowLineage x = Scenes.pairsAndSingles(8, 1);
        x.drop(16, true);
        due("17, one of them DROPPED", x.count(0), FULL);
        due("16, and 12 rows more that stand in no TERM", withOthers().count(0), (1 << 16) - 6561);
    }

    private static RowLineage withOthers() {
        RowLineage x = Scenes.pairsAndSingles(8, 0);
        Scenes.likeRows(x, 2, 12, 6);
        x.run(x.pick(5, 0, 1, NONE, 5));
        return x;
    }

    private static void sixteenRowsOfMatter() {
        for (int row = 0; row < 16; row++) {
            due("15, row " + row, Scenes.pairsAndSingles(7, 1).matters(0, row), row < 15 ? 1 : NONE);
            due("16, row " + row, Scenes.pairsAndSingles(8, 0).matters(0, row), 1);
            due("17, row " + row, Scenes.pairsAndSingles(8, 1).matters(0, row), FULL);
        }
        due("16, a row of no TERM", withOthers().matters(0, 16), 0);
        due("16, the last row", withOthers().matters(0, 27), 0);
        due("16, no row", withOthers().matters(0, 28), NONE);
    }

    private static void sixteenRowsBlamed() {
        due("15: seven pairs, one single", Scenes.pairsAndSingles(7, 1).blame(0), 8);
        due("16: eight pairs", Scenes.pairsAndSingles(8, 0).blame(0), 8);
        due("16: four pairs, eight singles", Scenes.pairsAndSingles(4, 8).blame(0), 12);
        due("17: eight pairs, one single", Scenes.pairsAndSingles(8, 1).blame(0), FULL);
        due("24: twelve pairs", Scenes.pairsAndSingles(12, 0).blame(0), FULL);
        RowLineage x = Scenes.pairsAndSingles(8, 0);
        x.drop(0, true);
        x.drop(3, true);
        due("16, two pairs broken already", x.blame(0), 6);
        RowLineage y = Scenes.pairsAndSingles(8, 1);
        for (int r = 0; r < 17; r++) {
            y.drop(r, true);
        }
        due("17, all DROPPED: no dropping does so, named before FULL", y.blame(0), NONE);
    }

    /** The same for rows that lack: 4 ways, each without 11, 12, 13 rows. */
    private static void sixteenRowsOfLacks() {
        for (int more = 0; more <= 2; more++) {
            RowLineage x = Scenes.crowd(4, 11, more);
            x.run(x.minus(x.minus(0, 1), 2));
            due("count of " + (15 + more), x.count(0), more <= 1 ? 15 : FULL);
            due("matters of " + (15 + more), x.matters(0, 14), more <= 1 ? 1 : FULL);
            due("blame of " + (15 + more), x.blame(0), more <= 1 ? 11 + more : FULL);
            for (int r = 4; r < 15 + more; r++) {
                x.drop(r, true);
            }
            due("blame of " + (15 + more) + " that holds", x.blame(0), more <= 1 ? 4 : FULL);
        }
    }

    private FullTest() {
    }
}
