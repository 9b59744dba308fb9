/** The sentences about words that name a bound: Terms 4, promises 16 to 18. */
public final class WordsBoundsTest {
    private static final Due DUE = new Due();
    private static final int UNKNOWN = RuledTables.UNKNOWN, OUTSIDE = RuledTables.OUTSIDE, FULL = RuledTables.FULL;
    private static final int NO = RuledTables.NO, NONE = RuledTables.NONE;

    public static void main(String[] args) {
        middlesWithinAField();
        middlesOfWideWords();
        narrowFields();
        onNoLine();
        noTable();
        firstTable();
        readByMiddles();
        readByLeftThenNumber();
        mostWordsInACell();
        leftLessAndRightGreater();
        oneOnEachSide();
        wordsOfTheCell();
        withinAWholeCell();
        someSidesAreRuled();
        numberedByCellsWaysLines();
        mendedFromEdgeToEdge();
        read();
        missed();
        mend();
        mendFull();
        DUE.end();
    }

    /** One whole cell of four fields, with lines at 50 of which only ends are drawn. */
    private static Run wide() {
        return new Run(DUE).box(10, 10, 90, 90).put("draw", 0, 50, 10, 15).put("draw", 1, 50, 10, 15);
    }

    /** A word whose numbers are turned about, if way is 0: from and to are those across the line of that way. */
    private static Run write(Run r, int way, int from, int to, int begin, int end) {
        return way == 1 ? r.put("write", from, begin, to, end) : r.put("write", begin, from, end, to);
    }

    /** Middles are told doubled: a word of two or three places lies about each. */
    private static void middlesWithinAField() {
        DUE.says("if its middle (half of LEFT and RIGHT, half of TOP and BOTTOM, exactly) lies within a FIELD of it");
        int[] middles = {19, 20, 21, 59, 60, 61, 99, 100, 101};
        int[] fields = {NONE, NONE, 0, 0, NONE, 1, 1, NONE, NONE};
        for (int i = 0; i < middles.length; i++) {
            for (int j = 0; j < middles.length; j++) {
                Run r = new Run(DUE).box(10, 10, 50, 50).put("draw", 0, 30, 10, 50).put("draw", 1, 30, 10, 50);
                int left = (middles[j] - 2) / 2;
                int top = (middles[i] - 2) / 2;
                r.put("write", left, top, middles[j] - left, middles[i] - top);
                boolean isIn = fields[i] != NONE && fields[j] != NONE;
                r.is(isIn ? 0 : NONE, "word", 0, 4).is(isIn ? 2 * fields[i] + fields[j] : NONE, "word", 0, 5);
                r.is(isIn ? 0 : 1, "told", 4).is(isIn ? 1 : 0, "table", 0, 4);
            }
        }
    }

    private static void middlesOfWideWords() {
        DUE.says("its middle (half of LEFT and RIGHT, half of TOP and BOTTOM, exactly)");
        for (int way = 0; way < 2; way++) {
            Run r = new Run(DUE).box(10, 10, 90, 90).put("draw", way, 50, 10, 90);
            write(r, way, 0, 99, 20, 30);
            write(r, way, 1, 99, 20, 30);
            write(r, way, 2, 99, 20, 30);
            write(r, way, 0, 20, 20, 30);
            write(r, way, 0, 21, 20, 30);
            write(r, way, 81, 98, 20, 30);
            write(r, way, 81, 99, 20, 30);
            int[] due = {0, NONE, 1, NONE, 0, 1, NONE};
            for (int w = 0; w < due.length; w++) {
                r.is(due[w], "word", w, 5);
            }
        }
    }

    private static void narrowFields() {
        DUE.says("lies within a FIELD of it, on no LINE");
        for (int way = 0; way < 2; way++) {
            Run r = new Run(DUE).put("set", 0, 0).put("draw", 1 - way, 10, 0, 99).put("draw", 1 - way, 90, 0, 99);
            for (int at = 49; at <= 51; at++) {
                r.put("draw", way, at, 10, 90);
            }
            write(r, way, 49, 50, 20, 30);
            write(r, way, 50, 51, 20, 30);
            write(r, way, 49, 51, 20, 30);
            write(r, way, 48, 50, 20, 30);
            write(r, way, 0, 99, 20, 30);
            int[] due = {0, 1, NONE, NONE, 0};
            for (int w = 0; w < due.length; w++) {
                r.is(due[w], "word", w, 5);
            }
        }
    }

    private static void onNoLine() {
        DUE.says("on no LINE");
        Run r = wide().put("write", 40, 20, 60, 30).put("write", 20, 40, 30, 60).put("write", 40, 40, 60, 60);
        r.put("write", 40, 20, 61, 30).is(1, "table", 0, 2).is(NONE, "word", 0, 5).is(NONE, "word", 1, 5);
        r.is(NONE, "word", 2, 5).is(0, "word", 3, 5).is(3, "told", 4).is(1, "cell", 0, 0, 6);
    }

    private static void noTable() {
        DUE.says("else it is LOOSE");
        Run r = new Run(DUE).put("write", 20, 20, 30, 30).is(NONE, "word", 0, 4).is(NONE, "word", 0, 5).is(1, "told", 4);
        r.box(10, 10, 50, 50).is(0, "word", 0, 4).is(0, "told", 4).put("write", 60, 20, 70, 30).is(1, "told", 4);
        r.is(3, "erase", 0).is(2, "told", 4).is(1, "strike", 1).is(1, "told", 4).is(0, "strike", 0).is(0, "told", 4);
    }

    private static void firstTable() {
        DUE.says("of TABLES the first one in which it is so");
        Run r = new Run(DUE).box(30, 30, 70, 70).box(10, 10, 90, 90).put("write", 40, 40, 50, 50);
        r.put("write", 20, 40, 24, 50).is(0, "word", 0, 4).is(0, "word", 1, 4).is(0, "table", 1, 4).is(2, "table", 0, 4);
        r.put("draw", 1, 45, 90, 95).is(2, "table", 0, 1).is(1, "word", 0, 4).is(0, "word", 0, 5).is(0, "word", 1, 4);
        r.is(1, "table", 0, 4).is(1, "table", 1, 4).is(1, "cell", 1, 0, 6).is(0, "told", 4);
        r.put("draw", 0, 45, 75, 95).is(1, "word", 0, 4).put("draw", 0, 45, 65, 72).is(2, "told", 3).put("draw", 0, 45, 72, 73).is(1, "told", 3);
    }

    /** Two halves make a half: each word lies half a place below the one before. */
    private static void readByMiddles() {
        DUE.says("WORDS of a CELL are READ by middles from above");
        Run r = new Run(DUE).box(10, 10, 90, 90);
        r.put("write", 20, 40, 30, 44).put("write", 40, 30, 50, 53).put("write", 60, 40, 70, 42).put("write", 15, 11, 80, 74);
        r.row(new int[] {2, 1, 0, 3, NONE}, "read", 0, 0).is(3, "strike", 2).row(new int[] {1, 0, 2, NONE}, "read", 0, 0);
    }

    private static void readByLeftThenNumber() {
        DUE.says("then by LEFT, then by number");
        Run r = new Run(DUE).box(10, 10, 90, 90);
        r.put("write", 31, 40, 32, 44).put("write", 30, 41, 70, 43).put("write", 30, 30, 31, 54).put("write", 29, 39, 80, 45);
        r.put("write", 30, 42, 31, 43).row(new int[] {3, 1, 2, 0, 4, NONE}, "read", 0, 0);
        r.is(4, "strike", 1).put("write", 30, 41, 70, 43).row(new int[] {2, 1, 4, 0, 3, NONE}, "read", 0, 0);
        r.put("write", 32, 41, 33, 43).row(new int[] {2, 1, 4, 0, 5, 3, NONE}, "read", 0, 0);
    }

    private static void mostWordsInACell() {
        DUE.says("20 at most .. WORDS of a CELL are READ");
        Run r = new Run(DUE).box(10, 10, 90, 90);
        for (int i = 0; i < 20; i++) {
            r.put("write", 70 - 2 * i, 50, 72, 51);
        }
        r.is(20, "cell", 0, 0, 6).is(20, "table", 0, 4).is(0, "told", 4);
        for (int k = 0; k < 20; k++) {
            r.is(19 - k, "read", 0, 0, k);
        }
        r.is(NONE, "read", 0, 0, 20);
    }

    private static void leftLessAndRightGreater() {
        DUE.says("MISSED, if no WORD of the CELL has its LEFT less, and its RIGHT greater than that");
        int[][] third = {{20, 50, 1}, {20, 51, 0}, {50, 70, 1}, {49, 70, 0}, {48, 53, 0}, {11, 88, 0}, {49, 51, 1}};
        for (int way = 0; way < 2; way++) {
            for (int[] w : third) {
                Run r = wide();
                write(r, way, 20, 30, 60, 70);
                write(r, way, 60, 70, 60, 70);
                write(r, way, w[0], w[1], 60, 70);
                r.is(w[2], "table", 0, 6).row(w[2] == 1 ? new int[] {0, way, 1} : new int[] {NONE, NONE, NONE},
                    "missed", 0, 0);
            }
        }
    }

    private static void oneOnEachSide() {
        DUE.says("one of its WORDS at least has RIGHT no greater, another one LEFT no less");
        int[][] pairs = {{20, 50, 50, 70, 1}, {20, 50, 30, 50, 0}, {50, 70, 50, 70, 0}, {49, 50, 50, 51, 1},
            {20, 51, 50, 70, 0}, {20, 50, 49, 70, 0}, {20, 49, 51, 70, 1}};
        for (int way = 0; way < 2; way++) {
            wide().is(0, "table", 0, 6);
            write(wide(), way, 20, 30, 60, 70).is(0, "table", 0, 6);
            write(wide(), way, 60, 70, 60, 70).is(0, "table", 0, 6);
            for (int[] p : pairs) {
                Run r = wide();
                write(r, way, p[2], p[3], 60, 70);
                write(r, way, p[0], p[1], 60, 70);
                r.is(p[4], "table", 0, 6);
            }
        }
    }

    /** Two cells side by side along the way: words in one are nothing to the other. */
    private static void wordsOfTheCell() {
        DUE.says("no WORD of the CELL .. one of its WORDS at least");
        for (int way = 0; way < 2; way++) {
            Run r = new Run(DUE).box(10, 10, 90, 90).put("draw", 1 - way, 50, 10, 90).put("draw", way, 50, 10, 15);
            write(r, way, 20, 30, 20, 30);
            write(r, way, 60, 70, 60, 70);
            r.is(2, "table", 0, 2).is(0, "table", 0, 6);
            write(r, way, 60, 70, 20, 30);
            r.is(1, "table", 0, 6).row(new int[] {0, way, 1}, "missed", 0, 0);
            write(r, way, 20, 51, 60, 70);
            write(r, way, 45, 54, 0, 9);
            r.is(1, "table", 0, 6).row(new int[] {0, way, 1}, "missed", 0, 0);
            write(r, way, 20, 51, 20, 30);
            r.is(0, "table", 0, 6);
        }
    }

    private static void withinAWholeCell() {
        DUE.says("A LINE DOWN within a WHOLE CELL that SPANS COLUMNS on both sides of it");
        for (int way = 0; way < 2; way++) {
            Run r = new Run(DUE).box(10, 10, 90, 90).turned(way, 0, 50, 10, 50).turned(way, 1, 50, 50, 90);
            r.put("write", 20, 20, 30, 30).put("write", 60, 20, 70, 30).put("write", 20, 60, 30, 70);
            r.put("write", 60, 60, 70, 70).is(3, "cell", 0, 0, 6).is(1, "cell", 0, 0, 5).is(0, "table", 0, 6);
            r.is(NO, "mend", 0).turned(way, 0, 50, 50, 90).is(0, "cell", 0, 0, 5);
            r.is(1, "table", 0, 6).row(new int[] {0, 1 - way, 1}, "missed", 0, 0);
        }
        Run open = wide().put("write", 20, 20, 30, 30).put("write", 60, 60, 70, 70).is(2, "table", 0, 6);
        open.is(5, "erase", 3).put("draw", 1, 90, 10, 50).is(2, "cell", 0, 0, 5).is(0, "table", 0, 6).is(NO, "mend", 0);
    }

    private static void someSidesAreRuled() {
        DUE.says("A LINE DOWN within a WHOLE CELL .. is MISSED, if no WORD .. Likewise a LINE ACROSS");
        for (int way = 0; way < 2; way++) {
            Run r = new Run(DUE).box(10, 10, 90, 90).put("draw", way, 50, 10, 50).put("draw", 1 - way, 50, 10, 15);
            write(r, way, 20, 30, 20, 30);
            write(r, way, 60, 70, 20, 30);
            r.is(1, "ruled", 0, way, 1 - way, way).is(1, "table", 0, 2).row(new int[] {0, way, 1}, "missed", 0, 0);
            r.is(7, "mend", 0).row(new int[] {way, 50, 10, 90}, "piece", 6).is(2, "table", 0, 2).is(0, "table", 0, 6);
        }
    }

    /** Cells over rows 0 and 1 and over rows 2 and 3, each of two columns, with words in all corners. */
    private static void numberedByCellsWaysLines() {
        DUE.says("MISSED ones are numbered by CELLS, then WAYS, those DOWN first, then LINES.");
        Run r = new Run(DUE).box(0, 0, 90, 80).put("draw", 0, 40, 0, 90).put("draw", 0, 20, 0, 5).put("draw", 0, 60, 0, 5);
        r.put("draw", 1, 30, 0, 5).put("draw", 1, 60, 0, 5);
        for (int top = 65; top > 0; top -= 20) {
            r.put("write", 65, top, 70, top + 5).put("write", 5, top, 10, top + 5);
        }
        int[][] due = {{0, 1, 1}, {0, 1, 2}, {0, 0, 1}, {1, 1, 1}, {1, 1, 2}, {1, 0, 3}, {NONE, NONE, NONE}};
        r.is(6, "table", 0, 6);
        for (int k = 0; k < due.length; k++) {
            r.row(due[k], "missed", 0, k);
        }
        r.is(15, "mend", 0);
        int[][] pieces = {{1, 30, 0, 40}, {1, 60, 0, 40}, {0, 20, 0, 90}, {1, 30, 40, 80}, {1, 60, 40, 80}, {0, 60, 0, 90}};
        for (int k = 0; k < pieces.length; k++) {
            r.row(pieces[k], "piece", 9 + k);
        }
        r.is(12, "table", 0, 2).is(0, "table", 0, 6).is(NO, "mend", 0);
    }

    /** The wide cell lies within the table: its edges are not those of the table. */
    private static void mendedFromEdgeToEdge() {
        DUE.says("MENDED: for each a PIECE comes .. AT its LINE, FROM one edge of the CELL TO the other one.");
        for (int way = 0; way < 2; way++) {
            Run r = new Run(DUE).box(0, 0, 90, 90).turned(way, 1, 20, 0, 90).turned(way, 1, 70, 0, 90);
            r.turned(way, 0, 30, 0, 90).turned(way, 0, 80, 0, 90).turned(way, 0, 50, 0, 20);
            write(r, way, 32, 50, 30, 40);
            write(r, way, 50, 78, 30, 40);
            r.is(1, "table", 0, 6).is(10, "mend", 0).row(new int[] {way, 50, 20, 70}, "piece", 9).is(NO, "mend", 0);
        }
    }

    private static void read() {
        DUE.says("read: The k-th WORD that is READ in a CELL; NONE. UNKNOWN: both.");
        Run r = wide().row(new int[] {NONE, NONE}, "read", 0, 0).put("write", 20, 60, 30, 70).put("write", 20, 20, 30, 30);
        r.row(new int[] {1, 0, NONE}, "read", 0, 0).is(NONE, "read", 0, 0, -1);
        r.is(UNKNOWN, "read", 0, 1, 0).is(UNKNOWN, "read", 0, -1, 0).is(UNKNOWN, "read", 1, 0, 0);
        r.is(UNKNOWN, "read", -1, 0, 0).is(UNKNOWN, "read", 0, 1, 9).is(UNKNOWN, "read", 1, 0, 9);
        for (int far : Due.FAR) {
            r.is(NONE, "read", 0, 0, far).is(UNKNOWN, "read", 0, far, 0).is(UNKNOWN, "read", far, 0, 0);
            r.is(UNKNOWN, "read", 0, far, far).is(UNKNOWN, "read", far, far, far);
        }
    }

    private static void missed() {
        DUE.says("missed: .. the LINE (2); NONE: there is no such one. UNKNOWN; OUTSIDE.");
        Run r = wide().is(NONE, "missed", 0, 0, 0).put("write", 20, 20, 30, 30).put("write", 60, 20, 70, 30);
        r.row(new int[] {0, 1, 1, OUTSIDE}, "missed", 0, 0).row(new int[] {NONE, NONE, NONE, OUTSIDE}, "missed", 0, 1);
        r.row(new int[] {NONE, NONE, NONE, OUTSIDE}, "missed", 0, -1).is(OUTSIDE, "missed", 0, 0, -1);
        r.is(OUTSIDE, "missed", 0, -1, -1).is(UNKNOWN, "missed", 1, 0, 0).is(UNKNOWN, "missed", -1, 0, 0);
        r.is(UNKNOWN, "missed", 1, 0, 3).is(UNKNOWN, "missed", 1, 9, 0);
        for (int far : Due.FAR) {
            r.is(NONE, "missed", 0, far, 0).is(OUTSIDE, "missed", 0, 0, far).is(OUTSIDE, "missed", 0, far, far);
            r.is(UNKNOWN, "missed", far, 0, 0).is(UNKNOWN, "missed", far, far, far);
        }
    }

    private static void mend() {
        DUE.says("mend: how many PIECES there are. UNKNOWN; NO: nothing is");
        Run r = wide().is(UNKNOWN, "mend", 1).is(UNKNOWN, "mend", -1).is(NO, "mend", 0);
        for (int far : Due.FAR) {
            r.is(UNKNOWN, "mend", far);
        }
        r.put("write", 20, 20, 30, 30).is(NO, "mend", 0).put("write", 60, 60, 70, 70).is(UNKNOWN, "mend", 1);
        r.is(8, "mend", 0).row(new int[] {1, 50, 10, 90}, "piece", 6).row(new int[] {0, 50, 10, 90}, "piece", 7);
        r.is(NO, "mend", 0).is(8, "told", 0).is(4, "table", 0, 2).is(0, "word", 0, 5).is(3, "word", 1, 5);
        Run second = new Run(DUE).box(0, 0, 20, 20).box(30, 30, 90, 90).put("draw", 1, 60, 30, 35);
        second.put("write", 40, 40, 50, 50).put("write", 70, 40, 80, 50).is(NO, "mend", 0).is(UNKNOWN, "mend", 2);
        second.is(10, "mend", 1).row(new int[] {1, 60, 30, 90}, "piece", 9).is(NO, "mend", 1);
    }

    private static void mendFull() {
        DUE.says("FULL: there would be more than 24.");
        for (int before = 21; before <= 24; before++) {
            Run r = wide();
            for (int i = 6; i < before; i++) {
                r.put("draw", 0, 99, 10, 20);
            }
            r.is(NO, "mend", 0).put("write", 20, 20, 30, 30).put("write", 60, 60, 70, 70).is(2, "table", 0, 6);
            r.is(before + 2 <= 24 ? before + 2 : FULL, "mend", 0).is(before + 2 <= 24 ? before + 2 : before, "told", 0);
            r.is(UNKNOWN, "mend", 1).is(before + 2 <= 24 ? NO : FULL, "mend", 0);
            r.is(before + 2 <= 24 ? 0 : 2, "table", 0, 6);
        }
    }
}
