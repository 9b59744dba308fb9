/** The sentences about headings, images and what is told that name a bound: Terms 5, promises 19 to 22. */
public final class HeadingsBoundsTest {
    private static final Due DUE = new Due();
    private static final int UNKNOWN = RuledTables.UNKNOWN, OUTSIDE = RuledTables.OUTSIDE, STATE = RuledTables.STATE;
    private static final int FULL = RuledTables.FULL, NONE = RuledTables.NONE;

    public static void main(String[] args) {
        ofOneRow();
        downToTheFirstPlainRow();
        fewerThanAllRows();
        noSuchRow();
        oneColumn();
        mostRows();
        eachCellSpansOneColumn();
        headingsFromAbove();
        eachOnce();
        inTheHeads();
        heading();
        image();
        restore();
        restoreFull();
        restoreEmpty();
        toldBounds();
        DUE.end();
    }

    /** Rows of three columns: each text tells which of the two lines between them are ruled in that row. */
    private static Run rows(String... ruled) {
        Run r = new Run(DUE).put("draw", 1, 0, 0, 20 * ruled.length).put("draw", 1, 90, 0, 20 * ruled.length);
        r.put("draw", 1, 30, 0, 5).put("draw", 1, 60, 0, 5);
        for (int row = 0; row <= ruled.length; row++) {
            r.put("draw", 0, 20 * row, 0, 90);
        }
        for (int row = 0; row < ruled.length; row++) {
            for (int line = 0; line < 2; line++) {
                if (ruled[row].charAt(line) == '|') {
                    r.put("draw", 1, 30 * (line + 1), 20 * row, 20 * row + 20);
                }
            }
        }
        return r.is(ruled.length, "table", 0, 0).is(3, "table", 0, 1);
    }

    private static void ofOneRow() {
        DUE.says("but fewer than all ROWS (of one ROW: 0)");
        for (String row : new String[] {"||", "| ", " |", "  "}) {
            rows(row).is(0, "table", 0, 5).is(NONE, "heading", 0, 0, 0).is(NONE, "heading", 0, 2, 0);
        }
    }

    private static void downToTheFirstPlainRow() {
        DUE.says("how many ROWS there are down to the first one in which each CELL SPANS one COLUMN, that one, too");
        rows("||", "||", "||").is(1, "table", 0, 5);
        rows("||", "  ", "  ").is(1, "table", 0, 5);
        rows("| ", "||", "||").is(2, "table", 0, 5);
        rows(" |", "||", "  ", "||").is(2, "table", 0, 5);
        rows("  ", "||", "||", "||").is(2, "table", 0, 5);
        rows("  ", " |", "||", "||").is(3, "table", 0, 5);
    }

    private static void fewerThanAllRows() {
        DUE.says("that one, too, but fewer than all ROWS");
        rows("  ", "||").is(1, "table", 0, 5);
        rows("| ", " |", "||").is(2, "table", 0, 5);
        rows("| ", "  ", " |", "||").is(3, "table", 0, 5);
        rows("||", "||").is(1, "table", 0, 5);
    }

    private static void noSuchRow() {
        DUE.says("if there is no such one, all but the last");
        rows("  ", "  ").is(1, "table", 0, 5);
        rows("| ", " |", "| ").is(2, "table", 0, 5);
        rows("  ", "| ", "  ", " |").is(3, "table", 0, 5).is(2, "heading", 0, 1, 1);
    }

    private static void oneColumn() {
        DUE.says("the first one in which each CELL SPANS one COLUMN");
        Run r = new Run(DUE).box(10, 10, 50, 90).is(0, "table", 0, 5).is(NONE, "heading", 0, 0, 0);
        r.put("draw", 0, 30, 10, 50).is(1, "table", 0, 5).row(new int[] {0, NONE}, "heading", 0, 0);
        r.put("draw", 0, 60, 10, 50).is(1, "table", 0, 5).row(new int[] {0, NONE}, "heading", 0, 0);
    }

    private static void mostRows() {
        DUE.says("if there is no such one, all but the last");
        Run r = new Run(DUE).put("draw", 1, 10, 0, 99).put("draw", 1, 80, 0, 99).put("draw", 1, 40, 0, 2);
        for (int i = 0; i < 21; i++) {
            r.put("draw", 0, 4 * i, 10, 80);
        }
        r.row(new int[] {20, 2, 20, 24, 0, 19, 0, 20}, "table", 0);
        for (int k = 0; k < 19; k++) {
            r.is(k, "heading", 0, 0, k).is(k, "heading", 0, 1, k);
        }
        r.is(NONE, "heading", 0, 0, 19).is(NONE, "heading", 0, 1, 19);
    }

    /** A cell that is one field wide in the first row, but spans two columns below. */
    private static void eachCellSpansOneColumn() {
        DUE.says("in which each CELL SPANS one COLUMN");
        Run r = new Run(DUE).box(0, 0, 60, 90).put("draw", 0, 30, 30, 60).put("draw", 0, 60, 0, 60);
        r.put("draw", 1, 30, 0, 30).put("draw", 1, 30, 60, 90).is(4, "table", 0, 2).is(2, "cell", 0, 0, 3);
        r.is(2, "table", 0, 5).row(new int[] {0, NONE}, "heading", 0, 0).row(new int[] {1, 0, NONE}, "heading", 0, 1);
        Run tall = new Run(DUE).box(0, 0, 60, 90).put("draw", 0, 30, 30, 60).put("draw", 0, 60, 0, 60);
        tall.put("draw", 1, 30, 0, 90).is(2, "cell", 0, 0, 2).is(1, "table", 0, 5).is(0, "heading", 0, 0, 0);
    }

    private static void headingsFromAbove() {
        DUE.says("HEADINGS of a COLUMN: CELLS that have a FIELD in it, in the HEADS, from above, each once.");
        Run r = rows("  ", "| ", "||", "||").is(3, "table", 0, 5);
        r.row(new int[] {0, 1, 3, NONE}, "heading", 0, 0).row(new int[] {0, 2, 4, NONE}, "heading", 0, 1);
        r.row(new int[] {0, 2, 5, NONE}, "heading", 0, 2);
    }

    /** A ring: one cell is above another one and below it in one column. */
    private static void eachOnce() {
        DUE.says("from above, each once");
        Run r = new Run(DUE).box(0, 0, 90, 90).put("draw", 0, 20, 30, 90).put("draw", 0, 40, 30, 60);
        r.put("draw", 0, 60, 0, 90).put("draw", 1, 30, 20, 40).put("draw", 1, 60, 20, 40);
        r.is(3, "table", 0, 2).is(3, "table", 0, 5).is(0, "at", 0, 0, 1).is(1, "at", 0, 1, 1).is(0, "at", 0, 2, 1);
        r.row(new int[] {0, NONE, NONE}, "heading", 0, 0).row(new int[] {0, 1, NONE}, "heading", 0, 1);
        r.row(new int[] {0, NONE, NONE}, "heading", 0, 2);
    }

    /** A cell that begins in the heads and goes on below them is a heading; one that begins below is not. */
    private static void inTheHeads() {
        DUE.says("CELLS that have a FIELD in it, in the HEADS");
        Run r = new Run(DUE).box(0, 0, 60, 90).put("draw", 1, 30, 0, 90).put("draw", 0, 30, 30, 60);
        r.is(2, "table", 0, 0).is(1, "table", 0, 5).row(new int[] {0, NONE}, "heading", 0, 0);
        r.row(new int[] {1, NONE}, "heading", 0, 1).is(2, "at", 0, 1, 1);
    }

    private static void heading() {
        DUE.says("heading: The k-th of the HEADINGS of a COLUMN: its CELL; NONE: there is no such one. UNKNOWN: both.");
        Run r = rows("| ", "||", "||").row(new int[] {0, 2, NONE, NONE}, "heading", 0, 0);
        r.is(NONE, "heading", 0, 0, -1).is(UNKNOWN, "heading", 0, 3, 0).is(UNKNOWN, "heading", 0, -1, 0);
        r.is(UNKNOWN, "heading", 1, 0, 0).is(UNKNOWN, "heading", -1, 0, 0).is(UNKNOWN, "heading", 0, 3, 9);
        r.is(UNKNOWN, "heading", 1, 0, 9);
        for (int far : Due.FAR) {
            r.is(NONE, "heading", 0, 2, far).is(UNKNOWN, "heading", 0, far, 0).is(UNKNOWN, "heading", far, 0, 0);
            r.is(UNKNOWN, "heading", 0, far, far).is(UNKNOWN, "heading", far, far, far);
        }
    }

    private static void image() {
        DUE.says("image: All is kept in an IMAGE (0, 1): 1. OUTSIDE.");
        Run r = new Run(DUE).is(OUTSIDE, "image", -1).is(OUTSIDE, "image", 2).is(STATE, "restore", 0).is(STATE, "restore", 1);
        for (int far : Due.FAR) {
            r.is(OUTSIDE, "image", far);
        }
        r.put("draw", 0, 10, 10, 50).is(1, "image", 0).put("draw", 0, 20, 10, 50).is(1, "image", 1).is(2, "told", 0);
        r.is(1, "erase", 0).is(1, "image", 1).is(1, "restore", 0).is(1, "told", 0).is(10, "piece", 0, 1);
        r.is(1, "restore", 1).is(1, "told", 0).is(20, "piece", 0, 1);
    }

    private static void restore() {
        DUE.says("restore: It is as it was when it was kept: 1. OUTSIDE; STATE: it was not.");
        for (int k = 0; k < 2; k++) {
            Run r = new Run(DUE).box(10, 10, 50, 50).is(STATE, "restore", k).put("write", 20, 20, 30, 30);
            r.put("set", 0, 3).put("set", 1, 9).put("set", 2, 5).is(1, "image", k).is(OUTSIDE, "restore", -1);
            r.is(OUTSIDE, "restore", 2).is(STATE, "restore", 1 - k);
            for (int far : Due.FAR) {
                r.is(OUTSIDE, "restore", far);
            }
            r.put("set", 0, 0).put("set", 1, 0).put("set", 2, 0).is(3, "erase", 0).is(0, "strike", 0);
            for (int time = 0; time < 2; time++) {
                r.is(1, "restore", k).row(new int[] {4, 1, 4, 1, 0, 3, 9, 5}, "told");
                r.row(new int[] {0, 10, 10, 50, 0}, "piece", 0).row(new int[] {1, 50, 10, 50, 3}, "piece", 3);
                r.row(new int[] {20, 20, 30, 30, 0, 0}, "word", 0).put("draw", 1, 30, 10, 50).put("write", 1, 1, 2, 2);
                r.put("set", 0, 1).is(2, "table", 0, 1).is(STATE, "restore", 1 - k);
            }
        }
    }

    private static void restoreFull() {
        DUE.says("It is as it was when it was kept");
        Run r = new Run(DUE);
        for (int i = 0; i < 24; i++) {
            r.put("draw", i % 2, i % 4 < 2 ? 10 : 90, 9, 91);
        }
        for (int i = 0; i < 20; i++) {
            r.put("write", 20 + i, 40 - i, 60 + i, 70 + i);
        }
        String before = r.state();
        r.is(1, "image", 1);
        for (int i = 0; i < 24; i++) {
            r.is(23 - i, "erase", 0);
        }
        r.is(19, "strike", 7).is(1, "restore", 1).is(FULL, "draw", 0, 1, 2, 3).is(FULL, "write", 1, 2, 3, 4);
        for (int i = 0; i < 24; i++) {
            r.is(i % 2, "piece", i, 0).is(i % 4 < 2 ? 10 : 90, "piece", i, 1);
        }
        Run after = new Run(DUE).put("image", 1);
        for (int i = 0; i < 24; i++) {
            after.put("draw", i % 2, i % 4 < 2 ? 10 : 90, 9, 91);
        }
        for (int i = 0; i < 20; i++) {
            after.put("write", 20 + i, 40 - i, 60 + i, 70 + i);
        }
        after.put("image", 0).put("restore", 1).is(0, "told", 0).put("restore", 0);
        DUE.holds("state", after.state().equals(before));
    }

    private static void restoreEmpty() {
        DUE.says("It is as it was when it was kept");
        Run r = new Run(DUE).is(1, "image", 0).box(10, 10, 50, 50).put("write", 20, 20, 30, 30).is(1, "told", 3);
        r.is(1, "restore", 0).row(new int[] {0, 0, 0, 0, 0, 1, 2, 1}, "told").is(UNKNOWN, "table", 0, 0);
        r.is(UNKNOWN, "piece", 0, 0).is(UNKNOWN, "word", 0, 0).is(1, "draw", 0, 10, 10, 50);
    }

    private static void toldBounds() {
        DUE.says("told: 0 PIECES .. 7 REACH. OUTSIDE.");
        Run r = new Run(DUE).box(10, 10, 50, 50).put("draw", 0, 10, 40, 60).put("write", 20, 20, 30, 30);
        r.put("write", 70, 70, 80, 80).put("write", 0, 0, 1, 1).put("set", 0, 2).put("set", 1, 3).put("set", 2, 4);
        r.row(new int[] {5, 3, 4, 1, 2, 2, 3, 4, OUTSIDE}, "told").is(OUTSIDE, "told", -1);
        for (int far : Due.FAR) {
            r.is(OUTSIDE, "told", far);
        }
    }
}
