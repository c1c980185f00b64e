/** Each promise of the document: ordinary inputs, the edges that it names, and wrong inputs. */
public final class PromisesTest {
    private static final int NONE = RowLineage.NONE;
    private static final int BAD = RowLineage.BAD;
    private static final int FULL = RowLineage.FULL;
    private static final int LOW = Integer.MIN_VALUE;
    private static final int HIGH = Integer.MAX_VALUE;
    private static final String NO_INDEX = "IndexOutOfBoundsException";
    private static final String NO_ARGUMENT = "IllegalArgumentException";

    private static final Checks CHECKS = new Checks("PromisesTest");

    public static void main(String[] args) {
        promise1NewObject();
        promise2Source();
        promise3Row();
        promise4Scan();
        promise5Pick();
        promise6Cols();
        promise7Join();
        promise8Unite();
        promise9Minus();
        promise9NotWithManyTurns();
        promise10Fold();
        promise10FoldEdges();
        promise11Columns();
        promise12Run();
        promise12AbsorbedAsItGoes();
        promise12EightyTuples();
        promise13Cell();
        promise14Ways();
        promise15Way();
        promise16Drop();
        promise17Holds();
        promise18Made();
        promise19Under();
        promise20Forward();
        promise21Count();
        promise22Matters();
        promise23Blame();
        promise24Told();
        promise25Clear();
        refusalsChangeNothing();
        CHECKS.end();
    }

    private static void due(String call, Object got, Object want) {
        CHECKS.due(call, got, want);
    }

    private static void promise1NewObject() {
        RowLineage x = new RowLineage();
        due("1 told", Still.tolds(x), "0 0 0 0 0 0");
        due("1 run(0)", x.run(0), NONE);
        due("1 columns(0)", x.columns(0), NONE);
        due("1 row(0)", x.row(0, 1, 1, 1, 1), NONE);
        due("1 scan(0)", x.scan(0), NONE);
        due("1 ways(0)", x.ways(0), NONE);
        due("1 cell(0, 0)", Shown.cell(x, 0, 0), NO_INDEX);
        due("1 way(0, 0, 0)", Shown.way(x, 0, 0, 0), NO_INDEX);
        due("1 forward(0)", x.forward(0), NONE);
        due("1 drop(0)", x.drop(0, true), NONE);
    }

    private static void promise2Source() {
        RowLineage x = new RowLineage();
        due("2 source(0)", x.source(0), BAD);
        due("2 source(5)", x.source(5), BAD);
        due("2 source(LOW)", x.source(LOW), BAD);
        due("2 source(HIGH)", x.source(HIGH), BAD);
        for (int s = 0; s < 4; s++) {
            due("2 source(" + (s + 1) + ")", x.source(s + 1), s);
        }
        due("2 source(1), a fifth", x.source(1), FULL);
        due("2 source(5): BAD before FULL", x.source(5), BAD);
        due("2 told(0)", x.told(0), 4);
        for (int s = 0; s < 4; s++) {
            due("2 columns of source " + s, x.columns(x.scan(s)), s + 1);
        }
    }

    private static void promise3Row() {
        RowLineage x = new RowLineage();
        x.source(4);
        x.source(1);
        due("3 row(0)", x.row(0, LOW, -1, 0, HIGH), 0);
        due("3 row(1)", x.row(1, 7, 8, 9, 10), 1);
        due("3 row(2)", x.row(2, 0, 0, 0, 0), NONE);
        due("3 row(-1)", x.row(-1, 0, 0, 0, 0), NONE);
        due("3 row(LOW)", x.row(LOW, 0, 0, 0, 0), NONE);
        x.scan(0);
        x.scan(1);
        due("3 run(0)", Shown.run(x, 0), "1: " + LOW + ",-1,0," + HIGH + " [+0]");
        due("3 run(1)", Shown.run(x, 1), "1: 7 [+1]");
        due("3 columns(1)", x.columns(1), 1);
        x.drop(1, true);
        due("3 refused", x.row(9, 0, 0, 0, 0), NONE);
        due("3 told(3) behind a refusal", x.told(3), 1);
        due("3 row of another source", x.row(0, 1, 2, 3, 4), 2);
        due("3 told: what nodes gave is gone", Still.tolds(x), "2 3 2 0 0 2");
        due("3 ways(0)", x.ways(0), NONE);
        due("3 cell(0, 0)", Shown.cell(x, 0, 0), NO_INDEX);
        due("3 run(0) anew", Shown.run(x, 0), "2: " + LOW + ",-1,0," + HIGH + " [+0]; 1,2,3,4 [+2]");
        for (int r = 3; r < 36; r++) {
            due("3 row", x.row(0, r, r, r, r), r);
        }
        x.run(1);
        due("3 a row too many", x.row(0, 0, 0, 0, 0), FULL);
        due("3 NONE before FULL", x.row(2, 0, 0, 0, 0), NONE);
        due("3 told", Still.tolds(x), "2 36 2 1 0 35");
        due("3 run(0), all rows", x.run(0), 35);
        due("3 the last row", x.way(34, 0, 0), 1L << 35);
    }

    private static void promise4Scan() {
        RowLineage x = Scenes.pairs(2, 1, -3, 9, 2, -1, 2, 1);
        due("4 scan(-1)", x.scan(-1), NONE);
        due("4 scan(1)", x.scan(1), NONE);
        due("4 scan(HIGH)", x.scan(HIGH), NONE);
        due("4 run", Shown.run(x, 0), "3: -3,9 [+1]; 2,-1 [+2]; 2,1 [+0][+3]");
        for (int n = 1; n < 16; n++) {
            due("4 scan(0)", x.scan(0), n);
        }
        due("4 scan(0), a node too many", x.scan(0), FULL);
        due("4 scan(1): NONE before FULL", x.scan(1), NONE);
        due("4 told(2)", x.told(2), 16);
        due("4 run(15)", x.run(15), 3);
        RowLineage twelve = Scenes.crowd(12);
        due("4 twelve like rows", twelve.run(0), 1);
        due("4 twelve ways", twelve.ways(0), 12);
        due("4 a thirteenth", twelve.row(0, 5, 0, 0, 0), 12);
        due("4 is FULL", twelve.run(0), FULL);
        RowLineage empty = Scenes.crowd(0);
        due("4 no row", empty.run(0), 0);
    }

    private static void promise5Pick() {
        RowLineage x = Scenes.pairs(1, 1, 1, 2, 2, 1, 3, 3, 3, 3);
        due("5 below", x.pick(0, 0, 0, NONE, 2), 1);
        due("5 like", x.pick(0, 1, 1, NONE, 1), 2);
        due("5 above", x.pick(0, 0, 2, NONE, 1), 3);
        due("5 below another", x.pick(0, 0, 0, 1, 99), 4);
        due("5 like another", x.pick(0, 0, 1, 1, 99), 5);
        due("5 above another", x.pick(0, 0, 2, 1, 99), 6);
        due("5 like itself", x.pick(0, 1, 1, 1, 99), 7);
        due("5 run below", Shown.run(x, 1), "2: 1,1 [+0]; 1,2 [+1]");
        due("5 run like", Shown.run(x, 2), "2: 1,1 [+0]; 2,1 [+2]");
        due("5 run above", Shown.run(x, 3), "2: 2,1 [+2]; 3,3 [+3][+4]");
        due("5 run below another", Shown.run(x, 4), "1: 1,2 [+1]");
        due("5 run like another", Shown.run(x, 5), "2: 1,1 [+0]; 3,3 [+3][+4]");
        due("5 run above another", Shown.run(x, 6), "1: 2,1 [+2]");
        due("5 run like itself", x.run(7), 4);
        due("5 above all", x.run(x.pick(0, 0, 2, NONE, HIGH)), 0);
        due("5 all above", x.run(x.pick(0, 0, 2, NONE, LOW)), 4);
        int[][] wrongs = {{-1, 0, 0, -1, NONE}, {10, 0, 0, -1, NONE}, {0, 2, 0, -1, NONE}, {0, -1, 0, -1, NONE},
            {0, 0, 0, 2, NONE}, {0, 0, 0, -2, NONE}, {0, 0, 0, LOW, NONE}, {0, 0, 3, -1, BAD}, {0, 0, -1, -1, BAD},
            {0, 0, 9, 2, NONE}, {0, 9, 9, 0, NONE}, {LOW, HIGH, LOW, HIGH, NONE}};
        for (int[] w : wrongs) {
            due("5 pick(" + w[0] + ", " + w[1] + ", " + w[2] + ", " + w[3] + ")", x.pick(w[0], w[1], w[2], w[3], 0),
                w[4]);
        }
        fillNodes(x);
        due("5 FULL", x.pick(0, 0, 0, NONE, 0), FULL);
        due("5 BAD before FULL", x.pick(0, 0, 3, NONE, 0), BAD);
        due("5 NONE before FULL", x.pick(0, 0, 0, 2, 0), NONE);
    }

    private static void fillNodes(RowLineage x) {
        for (int n = x.told(2); n < 16; n++) {
            due("scan(0)", x.scan(0), n);
        }
    }

    private static void promise6Cols() {
        RowLineage x = Scenes.pairs(1, 7, 2, 7, 2, 6);
        due("6 turned", x.cols(0, 12), 1);
        due("6 same", x.cols(0, 21), 2);
        due("6 second", x.cols(0, 2), 3);
        due("6 six", x.cols(0, 122121), 4);
        due("6 run turned", Shown.run(x, 1), "3: 6,2 [+2]; 7,1 [+0]; 7,2 [+1]");
        due("6 run same", Shown.run(x, 2), "3: 1,7 [+0]; 2,6 [+2]; 2,7 [+1]");
        due("6 run second", Shown.run(x, 3), "2: 6 [+2]; 7 [+0][+1]");
        due("6 columns(4)", x.columns(4), 6);
        due("6 run six", Shown.run(x, 4), "3: 1,7,1,7,7,1 [+0]; 2,6,2,6,6,2 [+2]; 2,7,2,7,7,2 [+1]");
        int[][] wrongs = {{-1, 1, NONE}, {5, 1, NONE}, {5, 0, NONE}, {0, 0, BAD}, {0, -1, BAD}, {0, 1000000, BAD},
            {0, 10, BAD}, {0, 101, BAD}, {0, 301, BAD}, {0, 1111111, BAD}, {0, LOW, BAD}, {0, HIGH, BAD}, {0, 3, NONE},
            {0, 31, NONE}, {0, 13, NONE}, {0, 999999, NONE}, {3, 2, NONE}};
        for (int[] w : wrongs) {
            due("6 cols(" + w[0] + ", " + w[1] + ")", x.cols(w[0], w[1]), w[2]);
        }
        fillNodes(x);
        due("6 FULL", x.cols(0, 1), FULL);
        due("6 BAD before FULL", x.cols(0, 0), BAD);
        due("6 NONE before FULL", x.cols(0, 3), NONE);
    }

    private static void promise7Join() {
        RowLineage x = new RowLineage();
        x.source(2);
        x.source(4);
        x.row(0, 1, 5, 0, 0);
        x.row(1, 5, 0, 3, 2);
        x.row(0, 2, 5, 0, 0);
        x.row(1, 5, 0, 2, 1);
        x.row(0, 1, 6, 0, 0);
        x.row(1, 5, 0, 3, 2);
        x.scan(0);
        x.scan(1);
        due("7 join", x.join(0, 1, 1, 0), 2);
        due("7 columns", x.columns(2), 6);
        due("7 run", Shown.run(x, 2), "4: 1,5,5,0,2,1 [+0+3]; 1,5,5,0,3,2 [+0+1][+0+5]; "
            + "2,5,5,0,2,1 [+2+3]; 2,5,5,0,3,2 [+1+2][+2+5]");
        due("7 by other columns", x.join(1, 0, 3, 0), 3);
        due("7 run", Shown.run(x, 3), "3: 5,0,2,1,1,5 [+0+3]; 5,0,2,1,1,6 [+3+4]; 5,0,3,2,2,5 [+1+2][+2+5]");
        due("7 with itself", Shown.run(x, x.join(0, 0, 0, 0)),
            "5: 1,5,1,5 [+0]; 1,5,1,6 [+0+4]; 1,6,1,5 [+0+4]; 1,6,1,6 [+4]; 2,5,2,5 [+2]");
        int[][] wrongs = {{-1, 1, 0, 0, NONE}, {0, 9, 0, 0, NONE}, {0, 1, 2, 0, NONE}, {0, 1, 0, 4, NONE},
            {0, 1, -1, 0, NONE}, {0, 1, 0, -1, NONE}, {1, 1, 0, 0, BAD}, {1, 1, 0, 4, NONE}, {2, 0, 0, 0, BAD},
            {5, 1, 0, 0, BAD}, {1, 5, 0, 0, BAD}, {LOW, HIGH, 0, 0, NONE}};
        due("7 three columns", x.cols(1, 321), 5);
        for (int[] w : wrongs) {
            due("7 join(" + w[0] + ", " + w[1] + ", " + w[2] + ", " + w[3] + ")", x.join(w[0], w[1], w[2], w[3]),
                w[4]);
        }
        fillNodes(x);
        due("7 FULL", x.join(0, 1, 0, 0), FULL);
        due("7 BAD before FULL", x.join(1, 1, 0, 0), BAD);
        due("7 NONE before FULL", x.join(0, 1, 0, 4), NONE);
    }

    private static void promise8Unite() {
        RowLineage x = new RowLineage();
        x.source(1);
        x.source(1);
        x.source(2);
        x.row(1, 3, 0, 0, 0);
        x.row(0, 3, 0, 0, 0);
        x.row(0, 1, 0, 0, 0);
        x.row(1, 2, 0, 0, 0);
        x.scan(0);
        x.scan(1);
        x.scan(2);
        due("8 unite", x.unite(0, 1), 3);
        due("8 run", Shown.run(x, 3), "3: 1 [+2]; 2 [+3]; 3 [+0][+1]");
        due("8 with itself", Shown.run(x, x.unite(0, 0)), "2: 1 [+2]; 3 [+1]");
        due("8 columns", x.columns(3), 1);
        int[][] wrongs = {{-1, 0, NONE}, {0, 5, NONE}, {5, 0, NONE}, {0, HIGH, NONE}, {0, 2, BAD}, {2, 0, BAD}};
        for (int[] w : wrongs) {
            due("8 unite(" + w[0] + ", " + w[1] + ")", x.unite(w[0], w[1]), w[2]);
        }
        fillNodes(x);
        due("8 FULL", x.unite(0, 1), FULL);
        due("8 BAD before FULL", x.unite(0, 2), BAD);
        RowLineage y = Scenes.crowd(7, 6);
        due("8 thirteen ways", y.run(y.unite(0, 1)), FULL);
        RowLineage z = Scenes.crowd(6, 6);
        due("8 twelve ways", z.run(z.unite(0, 1)), 1);
    }

    private static void promise9Minus() {
        RowLineage x = new RowLineage();
        x.source(1);
        x.source(1);
        x.source(2);
        x.row(0, 1, 0, 0, 0);
        x.row(0, 1, 0, 0, 0);
        x.row(1, 1, 0, 0, 0);
        x.row(1, 1, 0, 0, 0);
        x.row(0, 2, 0, 0, 0);
        x.row(1, 3, 0, 0, 0);
        x.scan(0);
        x.scan(1);
        x.scan(2);
        due("9 minus", x.minus(0, 1), 3);
        due("9 run", Shown.run(x, 3), "2: 1 [+0-2-3][+1-2-3]; 2 [+4]");
        due("9 minus of a minus", x.minus(0, 3), 4);
        due("9 run", Shown.run(x, 4), "1: 1 [+0+2][+1+2][+0+3][+1+3]");
        due("9 minus itself", Shown.run(x, x.minus(0, 0)), "0: ");
        due("9 columns", x.columns(3), 1);
        due("9 no TUPLE that comes first", Shown.run(x, x.minus(x.pick(0, 0, 1, NONE, 1), x.pick(1, 0, 1, NONE, 3))),
            "1: 1 [+0][+1]");
        int[][] wrongs = {{-1, 0, NONE}, {0, 9, NONE}, {LOW, 0, NONE}, {0, 2, BAD}, {2, 0, BAD}};
        for (int[] w : wrongs) {
            due("9 minus(" + w[0] + ", " + w[1] + ")", x.minus(w[0], w[1]), w[2]);
        }
        fillNodes(x);
        due("9 FULL", x.minus(0, 1), FULL);
        due("9 BAD before FULL", x.minus(0, 2), BAD);
    }

    /** A NOT whose last TURNS are 14, each absorbed; and one of 13 that are not. */
    private static void promise9NotWithManyTurns() {
        RowLineage x = Scenes.crowd(1, 1, 1, 12);
        int withB = x.cols(x.join(0, 1, 0, 0), 1);
        int withoutB = x.minus(0, 1);
        int withoutC = x.minus(0, 3);
        int withDWithoutC = x.cols(x.join(withoutC, 2, 0, 0), 1);
        int all = x.unite(x.unite(withB, withoutB), withDWithoutC);
        due("9 three ways", Shown.run(x, all), "1: 5 [+0-1][+0+1][+0+2-3-4-5-6-7-8-9-10-11-12-13-14]");
        due("9 NOT of them", Shown.run(x, x.minus(1, all)), "1: 5 [-0+1]");
        due("9 thirteen turns", x.run(x.minus(1, withoutC)), FULL);
        RowLineage y = Scenes.crowd(1, 1, 11);
        due("9 twelve turns", y.run(y.minus(1, y.minus(0, 2))), 1);
        due("9 twelve ways", y.ways(0), 12);
    }

    private static void promise10Fold() {
        RowLineage x = Scenes.pairs(4, 1, 7, 1, 2, 1, 5, 2);
        int[] kinds = {x.fold(0, 1, 0, 0), x.fold(0, 1, 0, 1), x.fold(0, 1, 0, 2), x.fold(0, 1, 0, 3)};
        due("10 columns", x.columns(kinds[1]), 2);
        due("10 how many", Shown.run(x, kinds[0]), "4: 1,1 [+0-1-2][-0+1-2][-0-1+2]; "
            + "1,2 [+0+1-2][+0-1+2][-0+1+2]; 1,3 [+0+1+2]; 2,1 [+3]");
        due("10 sum", Shown.run(x, kinds[1]), "8: 1,2 [-0-1+2]; 1,4 [+0-1-2]; 1,6 [+0-1+2]; 1,7 [-0+1-2]; "
            + "1,9 [-0+1+2]; 1,11 [+0+1-2]; 1,13 [+0+1+2]; 2,5 [+3]");
        due("10 least", Shown.run(x, kinds[2]), "4: 1,2 [-0-1+2][+0-1+2][-0+1+2][+0+1+2]; "
            + "1,4 [+0-1-2][+0+1-2]; 1,7 [-0+1-2]; 2,5 [+3]");
        due("10 greatest", Shown.run(x, kinds[3]), "4: 1,2 [-0-1+2]; 1,4 [+0-1-2][+0-1+2]; "
            + "1,7 [-0+1-2][+0+1-2][-0+1+2][+0+1+2]; 2,5 [+3]");
        int[][] wrongs = {{-1, 0, 0, 0, NONE}, {5, 0, 0, 0, NONE}, {0, 2, 0, 0, NONE}, {0, 0, 2, 0, NONE},
            {0, -1, 0, 0, NONE}, {0, 0, -1, 0, NONE}, {0, 0, 0, 4, BAD}, {0, 0, 0, -1, BAD}, {0, 2, 0, 4, NONE},
            {0, LOW, HIGH, 0, NONE}};
        for (int[] w : wrongs) {
            due("10 fold(" + w[0] + ", " + w[1] + ", " + w[2] + ", " + w[3] + ")", x.fold(w[0], w[1], w[2], w[3]),
                w[4]);
        }
        fillNodes(x);
        due("10 FULL", x.fold(0, 0, 0, 0), FULL);
        due("10 BAD before FULL", x.fold(0, 0, 0, 4), BAD);
    }

    private static void promise10FoldEdges() {
        RowLineage wrap = Scenes.pairs(1, HIGH, 1, 1);
        due("10 sum of 32 bits", Shown.run(wrap, wrap.fold(0, 0, 1, 1)),
            "3: 1," + LOW + " [+0+1]; 1,1 [-0+1]; 1," + HIGH + " [+0-1]");
        due("10 by its own column", Shown.run(wrap, wrap.fold(0, 1, 1, 2)), "2: 1,1 [+1]; " + HIGH + "," + HIGH
            + " [+0]");
        RowLineage four = Scenes.pairs(1, 1, 1, 2, 1, 3, 1, 4);
        due("10 a group of four", four.run(four.fold(0, 0, 1, 0)), 4);
        due("10 four of them", Shown.term(four.way(3, 0, 0), four.way(3, 0, 1)), "[+0+1+2+3]");
        four.row(0, 1, 5, 0, 0);
        due("10 a group of five", four.run(1), FULL);
        RowLineage like = Scenes.pairs(1, 3, 1, 3, 1, 4);
        due("10 like rows are one TUPLE", Shown.run(like, like.fold(0, 0, 1, 0)),
            "2: 1,1 [+0-2][+1-2][-0-1+2]; 1,2 [+0+2][+1+2]");
        RowLineage alone = Scenes.crowd(1, 12);
        int thirteen = alone.minus(0, 1);
        due("10 one alone is not turned", alone.run(alone.fold(thirteen, 0, 0, 0)), 1);
        due("10 its lacks", alone.way(0, 0, 1), (1L << 13) - 2);
        RowLineage two = new RowLineage();
        two.source(2);
        two.source(2);
        two.row(0, 1, 1, 0, 0);
        two.row(0, 1, 2, 0, 0);
        for (int r = 0; r < 12; r++) {
            two.row(1, 1, 1, 0, 0);
        }
        int without = two.minus(two.scan(0), two.scan(1));
        due("10 two are turned", two.run(two.fold(without, 0, 1, 0)), FULL);
        RowLineage both = Scenes.pairs(1, 1, 1, 1, 1, 1, 1, 2, 1, 2, 1, 2, 1, 2);
        due("10 four without three, and twelve", both.run(both.fold(0, 0, 1, 3)), FULL);
        due("10 three times four ways", both.run(both.fold(0, 0, 1, 1)), 3);
        due("10 twelve", both.ways(2), 12);
        both.row(0, 1, 1, 0, 0);
        due("10 four times four ways", both.run(2), FULL);
    }

    private static void promise11Columns() {
        RowLineage x = Scenes.pairs(1, 1);
        x.source(3);
        x.scan(1);
        due("11 columns(0)", x.columns(0), 2);
        due("11 columns(1)", x.columns(1), 3);
        due("11 columns of a pick", x.columns(x.pick(1, 0, 0, 1, 0)), 3);
        due("11 columns of cols", x.columns(x.cols(1, 3)), 1);
        due("11 columns of a join", x.columns(x.join(0, 1, 0, 0)), 5);
        due("11 columns of a unite", x.columns(x.unite(1, 1)), 3);
        due("11 columns of a minus", x.columns(x.minus(0, 0)), 2);
        due("11 columns of a fold", x.columns(x.fold(1, 0, 0, 0)), 2);
        for (int n : new int[] {-1, 8, LOW, HIGH}) {
            due("11 columns(" + n + ")", x.columns(n), NONE);
        }
    }

    private static void promise12Run() {
        RowLineage x = Scenes.crowd(12, 2, 1);
        int tooMuch = x.unite(0, 1);
        int onIt = x.pick(tooMuch, 0, 1, NONE, 77);
        int overIt = x.minus(2, onIt);
        due("12 run(1)", Shown.run(x, 1), "1: 5 [+12][+13]");
        for (int n : new int[] {-1, 6, LOW, HIGH}) {
            due("12 run(" + n + ")", x.run(n), NONE);
            due("12 it stays", Shown.result(x, 1), "5 [+12][+13]");
        }
        for (int n : new int[] {tooMuch, onIt, overIt, tooMuch}) {
            due("12 run(" + n + ")", x.run(n), FULL);
            due("12 it stays", Shown.result(x, 1), "5 [+12][+13]");
        }
        due("12 another node", Shown.run(x, 2), "1: 5 [+14]");
        due("12 none of its TUPLES", x.run(x.pick(1, 0, 0, NONE, 5)), 0);
        due("12 told(3)", x.told(3), 0);
        due("12 rows dropped matter not", x.drop(14, true), 1);
        due("12 run(2)", Shown.run(x, 2), "1: 5 [+14]");
    }

    /** EITHER goes one by one: 13 ways on the way are FULL, even if a later one would absorb them all. */
    private static void promise12AbsorbedAsItGoes() {
        RowLineage x = Scenes.crowd(12);
        due("12 BOTH, 144 that leave 12", x.run(x.join(0, 0, 0, 0)), 1);
        due("12 twelve", x.ways(0), 12);
        for (int second = 0; second <= 3; second += 3) {
            RowLineage y = new RowLineage();
            y.source(2);
            y.source(2);
            for (int r = 0; r < 13; r++) {
                y.row(0, 1, r < 7 ? 1 : 2, 0, 0);
            }
            y.row(1, 1, second, 0, 0);
            int pairs = y.cols(y.join(y.scan(0), y.scan(1), 0, 0), 21);
            int all = y.unite(pairs, 1);
            due("12 three TUPLES", y.run(all), 3);
            String want = second == 0 ? "1: 1 [+13]" : FULL + ": 1 [+0+13]";
            String got = Shown.run(y, y.cols(all, 1));
            due("12 absorbed as it goes", got.substring(0, Math.min(got.length(), want.length())), want);
        }
    }

    private static void promise12EightyTuples() {
        for (int second = 10; second <= 11; second++) {
            RowLineage x = new RowLineage();
            x.source(2);
            x.source(2);
            for (int r = 0; r < 8; r++) {
                x.row(0, 1, r, 0, 0);
            }
            for (int r = 0; r < second; r++) {
                x.row(1, 1, r, 0, 0);
            }
            x.scan(0);
            x.scan(1);
            due("12 8 times " + second, x.run(x.join(0, 1, 0, 0)), second == 10 ? 80 : FULL);
        }
        RowLineage x = Scenes.pairs();
        for (int r = 0; r < 9; r++) {
            x.row(0, 1, r, 0, 0);
        }
        x.source(2);
        x.row(1, 1, 0, 0, 0);
        x.scan(1);
        int square = x.join(0, 0, 0, 0);
        due("12 81", x.run(square), FULL);
        int none = x.minus(0, 0);
        due("12 FALSE counts not", x.run(x.join(none, 0, 0, 0)), 0);
        int fewer = x.pick(0, 1, 0, NONE, 8);
        due("12 72", x.run(x.join(fewer, 0, 0, 0)), 72);
    }

    private static void promise13Cell() {
        RowLineage x = Scenes.pairs(HIGH, LOW, 3, 4);
        due("13 before a run", Shown.cell(x, 0, 0), NO_INDEX);
        x.run(0);
        due("13 cell(0, 0)", Shown.cell(x, 0, 0), "3");
        due("13 cell(0, 1)", Shown.cell(x, 0, 1), "4");
        due("13 cell(1, 0)", Shown.cell(x, 1, 0), "" + HIGH);
        due("13 cell(1, 1)", Shown.cell(x, 1, 1), "" + LOW);
        int[][] wrongs = {{2, 0}, {-1, 0}, {0, 2}, {0, -1}, {LOW, 0}, {HIGH, 0}, {0, LOW}, {0, HIGH}};
        for (int[] w : wrongs) {
            due("13 cell(" + w[0] + ", " + w[1] + ")", Shown.cell(x, w[0], w[1]), NO_INDEX);
        }
        x.run(x.cols(0, 1));
        due("13 fewer columns", Shown.cell(x, 0, 1), NO_INDEX);
        x.run(x.join(0, 0, 0, 0));
        due("13 more columns", Shown.cell(x, 0, 3), "4");
    }

    private static void promise14Ways() {
        RowLineage x = Scenes.pairs(1, 1, 1, 1, 2, 2);
        x.run(0);
        due("14 ways(0)", x.ways(0), 2);
        due("14 ways(1)", x.ways(1), 1);
        for (int t : new int[] {2, -1, LOW, HIGH}) {
            due("14 ways(" + t + ")", x.ways(t), NONE);
        }
        x.drop(0, true);
        due("14 dropping changes no ways", x.ways(0), 2);
    }

    private static void promise15Way() {
        RowLineage x = Scenes.crowd(2, 1);
        x.run(x.minus(0, 1));
        due("15 way(0, 0, 0)", Shown.way(x, 0, 0, 0), "1");
        due("15 way(0, 0, 1)", Shown.way(x, 0, 0, 1), "4");
        due("15 way(0, 1, 0)", Shown.way(x, 0, 1, 0), "2");
        due("15 way(0, 1, 1)", Shown.way(x, 0, 1, 1), "4");
        int[][] wrongs = {{1, 0, 0}, {-1, 0, 0}, {0, 2, 0}, {0, -1, 0}, {0, LOW, 1}, {HIGH, 0, 1}, {1, 0, 2},
            {0, 2, 2}};
        for (int[] w : wrongs) {
            due("15 way(" + w[0] + ", " + w[1] + ", " + w[2] + ")", Shown.way(x, w[0], w[1], w[2]), NO_INDEX);
        }
        for (int what : new int[] {2, -1, LOW, HIGH}) {
            due("15 way(0, 0, " + what + ")", Shown.way(x, 0, 0, what), NO_ARGUMENT);
        }
        RowLineage z = Scenes.crowd(0, 1);
        for (int r = 1; r < 36; r++) {
            z.row(0, r == 35 ? 5 : 100 + r, 0, 0, 0);
        }
        z.run(z.minus(0, 1));
        due("15 needs of 36 bits", Shown.way(z, 0, 0, 0), "" + (1L << 35));
        z.run(z.minus(1, 0));
        due("15 lacks of 36 bits", Shown.way(z, 0, 0, 1), "" + (1L << 35));
    }

    private static void promise16Drop() {
        RowLineage x = Scenes.crowd(2);
        x.run(0);
        due("16 PRESENT at first", x.drop(1, false), 0);
        due("16 dropped", x.drop(1, true), 1);
        due("16 again", x.drop(1, true), 0);
        due("16 told(5)", x.told(5), 1);
        due("16 made", x.made(0), 0);
        due("16 the other", x.drop(0, true), 1);
        due("16 holds", x.holds(0), 0);
        due("16 PRESENT again", x.drop(1, false), 1);
        due("16 made", x.made(0), 1);
        due("16 told(5)", x.told(5), 1);
        for (int r : new int[] {2, -1, 36, 64, LOW, HIGH}) {
            due("16 drop(" + r + ")", x.drop(r, true), NONE);
            due("16 drop(" + r + ")", x.drop(r, false), NONE);
        }
        due("16 told(5)", x.told(5), 1);
        due("16 a new row", x.row(0, 5, 0, 0, 0), 2);
        due("16 is PRESENT", x.drop(2, false), 0);
        due("16 others stay DROPPED", x.drop(0, true), 0);
    }

    private static void promise17Holds() {
        RowLineage x = Scenes.crowd(1, 1);
        x.run(x.minus(0, 1));
        due("17 lacks a PRESENT row", x.holds(0), 0);
        x.drop(1, true);
        due("17 holds", x.holds(0), 1);
        x.drop(0, true);
        due("17 needs a DROPPED row", x.holds(0), 0);
        for (int t : new int[] {1, -1, LOW, HIGH}) {
            due("17 holds(" + t + ")", x.holds(t), NONE);
        }
    }

    private static void promise18Made() {
        RowLineage x = Scenes.crowd(3, 1);
        x.run(x.minus(0, 1));
        due("18 none does", x.made(0), NONE);
        x.drop(3, true);
        due("18 first", x.made(0), 0);
        x.drop(0, true);
        due("18 second", x.made(0), 1);
        x.drop(1, true);
        due("18 third", x.made(0), 2);
        x.drop(0, false);
        due("18 first again", x.made(0), 0);
        for (int t : new int[] {1, -1, LOW, HIGH}) {
            due("18 made(" + t + ")", x.made(t), NONE);
        }
    }

    private static void promise19Under() {
        RowLineage x = Scenes.crowd(2, 1);
        x.run(x.minus(0, 1));
        x.drop(0, true);
        long[][] sets = {{0, 0}, {1, 1}, {2, 1}, {3, 1}, {4, 0}, {5, 0}, {7, 0}, {8, BAD}, {9, BAD}, {-1, BAD},
            {Long.MIN_VALUE, BAD}, {1L << 35, BAD}, {1L << 63 | 1, BAD}, {1L << 32, BAD}};
        for (long[] s : sets) {
            due("19 under(0, " + s[0] + ")", (long) x.under(0, s[0]), s[1]);
        }
        for (int t : new int[] {1, -1, LOW, HIGH}) {
            due("19 under(" + t + ", 1)", x.under(t, 1), NONE);
            due("19 NONE before BAD", x.under(t, 8), NONE);
        }
        due("19 changes nothing", x.told(5), 2);
        RowLineage y = Scenes.crowd(12, 12, 12);
        y.run(2);
        due("19 row 35", y.under(0, 1L << 35), 1);
        due("19 all rows", y.under(0, (1L << 36) - 1), 1);
        due("19 row 36", y.under(0, 1L << 36), BAD);
    }

    private static void promise20Forward() {
        RowLineage x = new RowLineage();
        x.source(1);
        x.source(1);
        x.row(0, 1, 0, 0, 0);
        x.row(0, 2, 0, 0, 0);
        x.row(0, 2, 0, 0, 0);
        x.row(1, 1, 0, 0, 0);
        x.scan(0);
        x.scan(1);
        due("20 no RESULT", x.forward(0), 0);
        x.run(x.unite(x.minus(0, 1), 1));
        due("20 2 TUPLES: 1 [+0-3][+3]; 2", Shown.result(x, 1), "1 [+0-3][+3]; 2 [+1][+2]");
        due("20 forward(3)", x.forward(3), 0);
        due("20 forward(0)", x.forward(0), 0);
        due("20 forward(1)", x.forward(1), 0);
        x.drop(0, true);
        due("20 forward(3), 0 away", x.forward(3), 1);
        x.drop(2, true);
        due("20 forward(1), 2 away", x.forward(1), 1);
        due("20 forward(2), back again", x.forward(2), 0);
        x.drop(1, true);
        due("20 forward(2), both away", x.forward(2), 1);
        RowLineage y = Scenes.pairs(1, 1, 1, 2, 1, 3);
        y.run(y.join(0, 0, 0, 0));
        due("20 five of nine", y.forward(0), 5);
        due("20 changes nothing", y.told(4), 9);
        for (int r : new int[] {3, -1, 64, LOW, HIGH}) {
            due("20 forward(" + r + ")", y.forward(r), NONE);
        }
    }

    private static void promise21Count() {
        RowLineage x = Scenes.crowd(3, 2);
        x.run(0);
        due("21 one of three", x.count(0), 7);
        x.run(x.minus(0, 1));
        due("21 one of three, none of two", x.count(0), 7);
        x.drop(0, true);
        due("21 dropping changes no count", x.count(0), 7);
        for (int t : new int[] {1, -1, LOW, HIGH}) {
            due("21 count(" + t + ")", x.count(t), NONE);
        }
        RowLineage y = Scenes.crowd(4, 12, 1);
        int sixteen = y.minus(0, 1);
        int seventeen = y.minus(sixteen, 2);
        y.run(sixteen);
        due("21 sixteen rows", y.count(0), 15);
        y.run(seventeen);
        due("21 seventeen rows", y.count(0), FULL);
        RowLineage twelve = Scenes.crowd(12);
        twelve.run(0);
        due("21 twelve ways", twelve.count(0), 4095);
    }

    private static void promise22Matters() {
        RowLineage x = Scenes.crowd(1, 1, 1);
        int withB = x.cols(x.join(0, 1, 0, 0), 1);
        int withoutB = x.minus(0, 1);
        x.run(x.unite(withB, withoutB));
        due("22 two ways", Shown.result(x, 1), "5 [+0-1][+0+1]");
        due("22 row 0", x.matters(0, 0), 1);
        due("22 row 1 stands in it, but is of no matter", x.matters(0, 1), 0);
        due("22 row 2", x.matters(0, 2), 0);
        x.drop(0, true);
        due("22 dropping changes nothing", x.matters(0, 0), 1);
        x.run(withoutB);
        due("22 a row that lacks", x.matters(0, 1), 1);
        int[][] wrongs = {{1, 0}, {-1, 0}, {0, 3}, {0, -1}, {LOW, 0}, {0, HIGH}, {0, 64}};
        for (int[] w : wrongs) {
            due("22 matters(" + w[0] + ", " + w[1] + ")", x.matters(w[0], w[1]), NONE);
        }
        x.run(x.unite(x.unite(withB, withoutB), x.cols(x.join(1, 2, 0, 0), 1)));
        due("22 three ways", Shown.result(x, 1), "5 [+0-1][+0+1][+1+2]");
        due("22 of these row 0", x.matters(0, 0), 1);
        due("22 of these row 1", x.matters(0, 1), 1);
        due("22 of these row 2", x.matters(0, 2), 1);
        RowLineage y = Scenes.crowd(4, 12, 1, 1);
        int sixteen = y.minus(0, 1);
        y.run(sixteen);
        due("22 sixteen rows", y.matters(0, 15), 1);
        due("22 none of the sixteen", y.matters(0, 16), 0);
        y.run(y.minus(sixteen, 2));
        due("22 seventeen rows", y.matters(0, 0), FULL);
        due("22 none of the seventeen", y.matters(0, 17), FULL);
        due("22 NONE before FULL", y.matters(0, 18), NONE);
        due("22 NONE before FULL", y.matters(1, 0), NONE);
    }

    private static void promise23Blame() {
        RowLineage x = Scenes.crowd(3, 2);
        x.run(0);
        due("23 each of three", x.blame(0), 3);
        x.drop(1, true);
        due("23 each of two", x.blame(0), 2);
        x.drop(0, true);
        x.drop(2, true);
        due("23 no dropping does so", x.blame(0), NONE);
        x.drop(0, false);
        x.run(x.minus(0, 1));
        due("23 both that it lacks", x.blame(0), 2);
        x.drop(3, true);
        due("23 the other one", x.blame(0), 1);
        x.drop(0, true);
        due("23 what it needs is away", x.blame(0), NONE);
        for (int t : new int[] {1, -1, LOW, HIGH}) {
            due("23 blame(" + t + ")", x.blame(t), NONE);
        }
        RowLineage y = Scenes.pairs(1, 1, 1, 2, 1, 3);
        y.run(y.fold(0, 0, 1, 0));
        due("23 three to two or one", y.blame(1), 1);
        due("23 three to one", y.blame(0), 2);
        due("23 three", y.blame(2), 1);
        y.run(y.cols(1, 1));
        due("23 all of the three", y.blame(0), 3);
        promise23BlameOfMany();
    }

    private static void promise23BlameOfMany() {
        RowLineage x = Scenes.crowd(4, 12, 1);
        int sixteen = x.minus(0, 1);
        int seventeen = x.minus(sixteen, 2);
        x.run(sixteen);
        due("23 sixteen rows", x.blame(0), 12);
        x.run(seventeen);
        due("23 seventeen rows", x.blame(0), FULL);
        for (int r = 0; r < 4; r++) {
            x.drop(r, true);
        }
        due("23 no dropping does so: NONE is named before FULL", x.blame(0), NONE);
    }

    private static void promise24Told() {
        RowLineage x = Scenes.crowd(2, 1);
        due("24 told", Still.tolds(x), "2 3 2 0 0 3");
        x.run(x.minus(0, 1));
        due("24 told", Still.tolds(x), "2 3 3 1 0 3");
        x.drop(2, true);
        due("24 told", Still.tolds(x), "2 3 3 1 1 2");
        for (int what : new int[] {-1, 6, LOW, HIGH}) {
            due("24 told(" + what + ")", x.told(what), BAD);
        }
    }

    private static void promise25Clear() {
        RowLineage x = Scenes.crowd(12, 12, 12);
        fillNodes(x);
        x.source(4);
        x.drop(3, true);
        x.run(0);
        x.clear();
        due("25 told", Still.tolds(x), "0 0 0 0 0 0");
        due("25 run(0)", x.run(0), NONE);
        due("25 scan(0)", x.scan(0), NONE);
        due("25 cell(0, 0)", Shown.cell(x, 0, 0), NO_INDEX);
        due("25 drop(3)", x.drop(3, false), NONE);
        due("25 source(2)", x.source(2), 0);
        for (int r = 0; r < 4; r++) {
            due("25 row", x.row(0, r, r, 0, 0), r);
        }
        due("25 scan(0)", x.scan(0), 0);
        due("25 run(0)", Shown.run(x, 0), "4: 0,0 [+0]; 1,1 [+1]; 2,2 [+2]; 3,3 [+3]");
        due("25 none is DROPPED", x.told(4), 4);
        x.clear();
        x.clear();
        due("25 told", Still.tolds(x), "0 0 0 0 0 0");
    }

    private static void refusalsChangeNothing() {
        RowLineage x = Scenes.crowd(2, 1);
        x.run(x.minus(0, 1));
        String before = Still.tolds(x) + Shown.result(x, 1);
        x.source(0);
        x.row(7, 0, 0, 0, 0);
        x.scan(7);
        x.pick(0, 0, 7, NONE, 0);
        x.cols(0, 7);
        x.join(0, 0, 7, 0);
        x.unite(0, 7);
        x.minus(7, 0);
        x.fold(0, 0, 0, 7);
        x.run(7);
        x.drop(7, true);
        x.under(0, 1L << 7);
        x.forward(7);
        x.told(7);
        due("refusals change nothing", Still.tolds(x) + Shown.result(x, 1), before);
    }

    private PromisesTest() {
    }
}
