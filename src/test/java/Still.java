/** All that can be seen of an object, as a text: two objects with the same text are alike to a caller. */
final class Still {
    private static final int NODES_ASKED = 17;

    private Still() {
    }

    static String tolds(RowLineage x) {
        StringBuilder text = new StringBuilder();
        for (int what = 0; what <= 5; what++) {
            text.append(what == 0 ? "" : " ").append(x.told(what));
        }
        return text.toString();
    }

    /** What is there now: numbers, columns of nodes, THE RESULT, and which rows are PRESENT. */
    static String now(RowLineage x) {
        StringBuilder text = new StringBuilder(tolds(x)).append(" columns");
        for (int n = 0; n < NODES_ASKED; n++) {
            text.append(' ').append(x.columns(n));
        }
        return text.append(" RESULT ").append(Shown.result(x, resultColumns(x))).append(holding(x))
            .append(" PRESENT ").append(present(x)).toString();
    }

    private static int resultColumns(RowLineage x) {
        int columns = 0;
        while (!Shown.cell(x, 0, columns).equals("IndexOutOfBoundsException")) {
            columns++;
        }
        return columns;
    }

    private static String holding(RowLineage x) {
        StringBuilder text = new StringBuilder(" holds ");
        for (int t = 0; t < x.told(3); t++) {
            text.append(x.holds(t));
        }
        return text.toString();
    }

    private static String present(RowLineage x) {
        StringBuilder text = new StringBuilder();
        for (int r = 0; r < x.told(1); r++) {
            boolean was = x.drop(r, false) == 0;
            text.append(was ? '1' : '0');
            if (!was) {
                x.drop(r, true);
            }
        }
        return text.toString();
    }

    /** What some nodes give later, and which numbers new things get. */
    static String later(RowLineage x) {
        StringBuilder text = new StringBuilder();
        for (int n = 0; n < x.told(2) && n < 10; n++) {
            text.append(n).append(" gives ").append(Shown.run(x, n)).append("; ");
        }
        text.append("new ").append(x.source(2)).append(' ').append(x.row(0, 1, 9, 0, 0)).append(' ').append(x.scan(0));
        return text.append(", then ").append(Shown.run(x, 0)).append(' ').append(tolds(x)).toString();
    }
}
