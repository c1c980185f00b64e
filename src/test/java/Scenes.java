/** Objects that tests begin with. */
final class Scenes {
    static final int NONE = RowLineage.NONE;

    private Scenes() {
    }

    /** Sources of one column each, with as many like rows (number 5) as told; a scan of each. */
    static RowLineage crowd(int... rows) {
        RowLineage x = new RowLineage();
        for (int s = 0; s < rows.length; s++) {
            x.source(1);
            likeRows(x, s, rows[s], 5);
        }
        for (int s = 0; s < rows.length; s++) {
            x.scan(s);
        }
        return x;
    }

    static void likeRows(RowLineage x, int source, int number, int value) {
        for (int r = 0; r < number; r++) {
            x.row(source, value, 0, 0, 0);
        }
    }

    /** One source of two columns with the rows of these pairs; node 0 scans it. */
    static RowLineage pairs(int... numbers) {
        RowLineage x = new RowLineage();
        x.source(2);
        for (int n = 0; n + 1 < numbers.length; n += 2) {
            x.row(0, numbers[n], numbers[n + 1], 0, 0);
        }
        x.scan(0);
        return x;
    }

    static RowLineage fresh() {
        return new RowLineage();
    }

    /**
     * 3 sources of 2, 1 and 3 columns, 6 rows (row 1 is DROPPED), 7 nodes; THE RESULT is node 4:
     * 5 [+0-3-4][+2-3-4]; 6 [+1]. Node 6 has as many columns as a node may have.
     */
    static RowLineage middle() {
        return middleOn(new RowLineage());
    }

    static RowLineage middleOn(RowLineage x) {
        x.source(2);
        x.source(1);
        x.source(3);
        x.row(0, 1, 5, 0, 0);
        x.row(0, 1, 6, 0, 0);
        x.row(0, 2, 5, 0, 0);
        x.row(1, 5, 0, 0, 0);
        x.row(1, 5, 0, 0, 0);
        x.row(2, 1, 2, 3, 0);
        middleNodes(x);
        x.drop(1, true);
        x.run(4);
        return x;
    }

    /** As the middle one, but with many more TUPLES in its nodes; all of them are run. */
    static RowLineage larger() {
        RowLineage x = new RowLineage();
        x.source(2);
        x.source(1);
        x.source(3);
        for (int r = 0; r < 12; r++) {
            x.row(0, 1 + r / 4, 5 + r, 0, 0);
            x.row(1, 5 + r, 0, 0, 0);
        }
        for (int r = 0; r < 8; r++) {
            x.row(2, 1, 2, r, 0);
        }
        middleNodes(x);
        for (int n = 0; n < 7; n++) {
            x.run(n);
        }
        return x;
    }

    private static void middleNodes(RowLineage x) {
        x.scan(0);
        x.scan(1);
        x.scan(2);
        x.cols(0, 2);
        x.minus(3, 1);
        x.fold(0, 0, 1, 1);
        x.join(2, 2, 0, 0);
    }

    /** As the middle one, with a source more of 4 columns, 36 rows, and 16 nodes: nothing has room. */
    static RowLineage full() {
        RowLineage x = middle();
        x.source(4);
        for (int r = 6; r < 36; r++) {
            x.row(3, r / 6, 0, 0, 0);
        }
        while (x.told(2) < 16) {
            x.scan(x.told(2) % 4);
        }
        x.drop(35, true);
        x.run(4);
        return x;
    }

    /**
     * As the middle one, with 13 ways for node 1's TUPLE: node 1 is FULL, and so are 4 and 7, made of it, and 8, made
     * of 7. Node 9 is not made of it: THE RESULT.
     */
    static RowLineage overfull() {
        RowLineage x = middle();
        likeRows(x, 1, 11, 5);
        x.pick(1, 0, 1, NONE, 77);
        x.minus(3, 7);
        x.pick(3, 0, 1, NONE, 6);
        x.run(9);
        return x;
    }

    /** THE RESULT has one TUPLE, and 17 rows stand in its TERMS; row 17 is in none. */
    static RowLineage wide() {
        RowLineage x = crowd(4, 12, 1, 1);
        x.drop(3, true);
        x.run(x.minus(x.minus(0, 1), 2));
        return x;
    }

    /** One TUPLE (5), which comes by as many pairs of rows and by as many single rows as told; it is run. */
    static RowLineage pairsAndSingles(int pairs, int singles) {
        RowLineage x = new RowLineage();
        x.source(2);
        x.source(2);
        x.source(1);
        for (int p = 0; p < pairs; p++) {
            x.row(0, 5, p, 0, 0);
            x.row(1, 5, p, 0, 0);
        }
        likeRows(x, 2, singles, 5);
        int joined = x.cols(x.join(x.scan(0), x.scan(1), 1, 1), 1);
        x.run(x.unite(joined, x.scan(2)));
        return x;
    }
}
