/** Answers as texts, so that a whole RESULT can be compared at once. */
final class Shown {
    private Shown() {
    }

    /** "1,9 [+0+3][+2+4]; ..": the numbers of each TUPLE, and its TERMS: rows needed (+) and lacking (-). */
    static String result(RowLineage x, int columns) {
        StringBuilder text = new StringBuilder();
        for (int t = 0; t < x.told(3); t++) {
            text.append(t == 0 ? "" : "; ");
            for (int c = 0; c < columns; c++) {
                text.append(c == 0 ? "" : ",").append(x.cell(t, c));
            }
            text.append(' ');
            for (int k = 0; k < x.ways(t); k++) {
                text.append(term(x.way(t, k, 0), x.way(t, k, 1)));
            }
        }
        return text.toString();
    }

    /** The answer of run, and what THE RESULT is then. */
    static String run(RowLineage x, int node) {
        int answer = x.run(node);
        return answer + ": " + result(x, x.columns(node));
    }

    static String term(long needs, long lacks) {
        StringBuilder text = new StringBuilder("[");
        for (int r = 0; r < 64; r++) {
            if ((needs >> r & 1L) != 0) {
                text.append('+').append(r);
            }
            if ((lacks >> r & 1L) != 0) {
                text.append('-').append(r);
            }
        }
        return text.append(']').toString();
    }

    static String cell(RowLineage x, int t, int column) {
        try {
            return "" + x.cell(t, column);
        } catch (RuntimeException e) {
            return e.getClass().getSimpleName();
        }
    }

    static String way(RowLineage x, int t, int k, int what) {
        try {
            return "" + x.way(t, k, what);
        } catch (RuntimeException e) {
            return e.getClass().getSimpleName();
        }
    }
}
