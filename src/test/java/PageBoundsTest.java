/** The sentences about the page that name a bound: Terms 1, promises 1 to 8. */
public final class PageBoundsTest {
    private static final Due DUE = new Due();
    private static final int UNKNOWN = RuledTables.UNKNOWN, OUTSIDE = RuledTables.OUTSIDE, FULL = RuledTables.FULL;
    private static final int STATE = RuledTables.STATE, NONE = RuledTables.NONE;

    public static void main(String[] args) {
        manyCalls();
        placesOfPieces();
        ways();
        fromToGreater();
        mostPieces();
        piecesAreOneLess();
        boxesOfWords();
        placesOfWords();
        mostWords();
        wordsAreOneLess();
        settings();
        newObject();
        set();
        draw();
        erase();
        piece();
        write();
        strike();
        word();
        DUE.end();
    }

    private static void manyCalls() {
        DUE.says("An object is used for at most 512 calls after it has been made");
        Run r = new Run(DUE);
        r.box(10, 10, 50, 50);
        while (r.calls() < 506) {
            r.is(5, "draw", 0, 30, 10, 50).is(2, "table", 0, 2).is(4, "erase", 4);
        }
        while (r.calls() < 511) {
            r.is(1, "table", 0, 2);
        }
        r.is(4, "told", 2);
        DUE.is("calls", r.calls(), 512);
    }

    private static void placesOfPieces() {
        DUE.says("A PLACE is 0 to 99 (from the left, from above).");
        for (int way = 0; way < 2; way++) {
            Run r = new Run(DUE);
            r.is(1, "draw", way, 0, 0, 99).is(2, "draw", way, 99, 0, 99);
            r.is(3, "draw", way, 50, 0, 1).is(4, "draw", way, 50, 98, 99);
            int[][] wrong = {{-1, 0, 99}, {100, 0, 99}, {50, -1, 99}, {50, 0, 100}, {50, 99, 100}, {50, -1, 0},
                {50, -2, -1}, {50, 100, 101}};
            for (int[] w : wrong) {
                r.is(OUTSIDE, "draw", way, w[0], w[1], w[2]);
            }
            r.row(new int[] {way, 0, 0, 99}, "piece", 0).row(new int[] {way, 99, 0, 99}, "piece", 1);
            r.row(new int[] {way, 50, 0, 1}, "piece", 2).row(new int[] {way, 50, 98, 99}, "piece", 3);
            r.is(4, "told", 0);
        }
    }

    private static void ways() {
        DUE.says("A PIECE has a WAY: 0 ACROSS, 1 DOWN");
        Run r = new Run(DUE);
        r.is(OUTSIDE, "draw", -1, 50, 40, 60).is(OUTSIDE, "draw", 2, 50, 40, 60).is(0, "told", 0);
        r.is(1, "draw", 0, 50, 40, 60).is(2, "draw", 1, 50, 40, 60);
        r.is(0, "piece", 0, 0).is(1, "piece", 1, 0);
    }

    private static void fromToGreater() {
        DUE.says("it lies AT a PLACE .., FROM one TO a greater one");
        for (int way = 0; way < 2; way++) {
            Run r = new Run(DUE);
            int[][] wrong = {{40, 40}, {41, 40}, {0, 0}, {99, 99}, {99, 98}, {99, 0}, {1, 0}};
            for (int[] w : wrong) {
                r.is(OUTSIDE, "draw", way, 50, w[0], w[1]);
            }
            r.is(0, "told", 0).is(1, "draw", way, 50, 40, 41);
        }
    }

    private static void mostPieces() {
        DUE.says("There are 24 at most");
        Run r = full();
        r.is(FULL, "draw", 0, 3, 3, 4).is(FULL, "draw", 1, 99, 0, 99).is(24, "told", 0);
        r.is(UNKNOWN, "piece", 24, 0).is(23, "erase", 11);
        r.is(24, "draw", 1, 7, 8, 9).is(FULL, "draw", 1, 7, 8, 9);
        r.row(new int[] {1, 7, 8, 9}, "piece", 23);
    }

    private static Run full() {
        Run r = new Run(DUE);
        for (int i = 0; i < 24; i++) {
            r.is(i + 1, "draw", i % 2, 4 * i, i, 40 + i);
        }
        return r;
    }

    private static void piecesAreOneLess() {
        DUE.says("numbered from 0 on as they came (those behind one that goes are one less)");
        for (int gone = 0; gone < 24; gone++) {
            Run r = full();
            r.is(23, "erase", gone).is(UNKNOWN, "piece", 23, 0);
            for (int i = 0; i < 23; i++) {
                int was = i < gone ? i : i + 1;
                r.row(new int[] {was % 2, 4 * was, was, 40 + was}, "piece", i);
            }
        }
    }

    private static void boxesOfWords() {
        DUE.says("A WORD is a box: .. LEFT less than RIGHT, TOP less than BOTTOM");
        Run r = new Run(DUE);
        int[][] wrong = {{40, 40}, {41, 40}, {0, 0}, {99, 99}, {99, 0}};
        for (int[] w : wrong) {
            r.is(OUTSIDE, "write", w[0], 20, w[1], 30).is(OUTSIDE, "write", 20, w[0], 30, w[1]);
            r.is(OUTSIDE, "write", w[0], w[0], w[1], w[1]);
        }
        r.is(0, "told", 1).is(1, "write", 40, 20, 41, 30).is(2, "write", 20, 40, 30, 41);
    }

    private static void placesOfWords() {
        DUE.says("A PLACE is 0 to 99 (from the left, from above).");
        Run r = new Run(DUE);
        int[][] wrong = {{-1, 0, 1, 1}, {0, -1, 1, 1}, {0, 0, 100, 1}, {0, 0, 1, 100}, {-2, 0, -1, 1}, {0, -2, 1, -1},
            {100, 0, 101, 1}, {0, 100, 1, 101}, {99, 0, 100, 1}, {0, 99, 1, 100}};
        for (int[] w : wrong) {
            r.is(OUTSIDE, "write", w);
        }
        int[][] right = {{0, 0, 1, 1}, {98, 98, 99, 99}, {0, 0, 99, 99}, {98, 0, 99, 1}, {0, 98, 1, 99}};
        for (int i = 0; i < right.length; i++) {
            r.is(i + 1, "write", right[i]).row(right[i], "word", i);
        }
    }

    private static void mostWords() {
        DUE.says("20 at most, numbered likewise");
        Run r = fullOfWords();
        r.is(FULL, "write", 0, 0, 1, 1).is(FULL, "write", 0, 0, 99, 99).is(20, "told", 1);
        r.is(UNKNOWN, "word", 20, 0).is(19, "strike", 9);
        r.is(20, "write", 5, 6, 7, 8).is(FULL, "write", 5, 6, 7, 8).row(new int[] {5, 6, 7, 8}, "word", 19);
    }

    private static Run fullOfWords() {
        Run r = new Run(DUE);
        for (int i = 0; i < 20; i++) {
            r.is(i + 1, "write", i, 2 * i, 30 + i, 50 + i);
        }
        return r;
    }

    private static void wordsAreOneLess() {
        DUE.says("20 at most, numbered likewise");
        for (int gone = 0; gone < 20; gone++) {
            Run r = fullOfWords();
            r.is(19, "strike", gone).is(UNKNOWN, "word", 19, 0);
            for (int i = 0; i < 19; i++) {
                int was = i < gone ? i : i + 1;
                r.row(new int[] {was, 2 * was, 30 + was, 50 + was}, "word", i);
            }
        }
    }

    private static void settings() {
        DUE.says("SLOP 0 to 3, GAP 0 to 9, REACH 0 to 5 (1, 2, 1 at first).");
        int[] first = {1, 2, 1};
        int[] most = {3, 9, 5};
        for (int what = 0; what < 3; what++) {
            Run r = new Run(DUE);
            int was = first[what];
            for (int n = 0; n <= most[what]; n++) {
                r.is(was, "set", what, n).is(n, "told", 5 + what);
                r.is(OUTSIDE, "set", what, -1).is(OUTSIDE, "set", what, most[what] + 1).is(n, "told", 5 + what);
                was = n;
            }
            for (int other = 0; other < 3; other++) {
                r.is(other == what ? most[what] : first[other], "told", 5 + other);
            }
        }
    }

    private static void newObject() {
        DUE.says("RuledTables(): No PIECES, no WORDS.");
        Run r = new Run(DUE);
        r.row(new int[] {0, 0, 0, 0, 0, 1, 2, 1, OUTSIDE}, "told");
        r.is(UNKNOWN, "erase", 0).is(UNKNOWN, "strike", 0).is(UNKNOWN, "piece", 0, 0).is(UNKNOWN, "word", 0, 0);
        r.is(UNKNOWN, "rule", 0, 0).is(UNKNOWN, "cross", 0, 0).is(UNKNOWN, "table", 0, 0).is(UNKNOWN, "edge", 0, 0, 0);
        r.is(UNKNOWN, "ruled", 0, 0, 0, 0).is(UNKNOWN, "at", 0, 0, 0).is(UNKNOWN, "cell", 0, 0, 0);
        r.is(UNKNOWN, "read", 0, 0, 0).is(UNKNOWN, "missed", 0, 0, 0).is(UNKNOWN, "mend", 0);
        r.is(UNKNOWN, "heading", 0, 0, 0).is(STATE, "restore", 0).is(STATE, "restore", 1);
        Run again = new Run(DUE);
        again.is(1, "draw", 0, 10, 10, 50).is(1, "write", 1, 2, 3, 4);
        r.is(0, "told", 0).is(0, "told", 1);
    }

    private static void set() {
        DUE.says("set: which it was. OUTSIDE: both.");
        Run r = new Run(DUE);
        r.is(OUTSIDE, "set", -1, 0).is(OUTSIDE, "set", 3, 0).is(OUTSIDE, "set", -1, -1).is(OUTSIDE, "set", 3, 9);
        r.is(OUTSIDE, "set", 0, 4).is(OUTSIDE, "set", 1, 10).is(OUTSIDE, "set", 2, 6);
        for (int far : Due.FAR) {
            r.is(OUTSIDE, "set", far, 0).is(OUTSIDE, "set", 0, far).is(OUTSIDE, "set", 1, far);
            r.is(OUTSIDE, "set", 2, far).is(OUTSIDE, "set", far, far);
        }
        r.is(1, "set", 0, 1).is(2, "set", 1, 2).is(1, "set", 2, 1);
    }

    private static void draw() {
        DUE.says("draw: A PIECE more: how many. OUTSIDE; FULL.");
        for (int count = 0; count <= 24; count += 24) {
            Run r = count == 0 ? new Run(DUE) : full();
            int[][] wrong = {{2, 0, 0, 1}, {0, 100, 0, 1}, {0, 0, 1, 1}, {0, 0, 0, 100}, {1, 0, 50, 49}};
            for (int[] w : wrong) {
                r.is(OUTSIDE, "draw", w);
            }
            for (int far : Due.FAR) {
                r.is(OUTSIDE, "draw", far, 0, 0, 1).is(OUTSIDE, "draw", 0, far, 0, 1).is(OUTSIDE, "draw", 0, 0, far, 1);
                r.is(OUTSIDE, "draw", 0, 0, 0, far).is(OUTSIDE, "draw", 1, 5, Integer.MIN_VALUE, far);
                r.is(OUTSIDE, "draw", 1, 5, far, Integer.MAX_VALUE);
            }
            r.is(count, "told", 0);
        }
    }

    private static void erase() {
        DUE.says("erase: A PIECE goes: how many there are. UNKNOWN.");
        Run r = new Run(DUE);
        r.is(UNKNOWN, "erase", 0).is(1, "draw", 0, 10, 10, 50).is(2, "draw", 1, 10, 10, 50);
        r.is(UNKNOWN, "erase", 2).is(UNKNOWN, "erase", -1);
        for (int far : Due.FAR) {
            r.is(UNKNOWN, "erase", far);
        }
        r.is(1, "erase", 1).is(UNKNOWN, "erase", 1).is(0, "erase", 0).is(UNKNOWN, "erase", 0).is(0, "told", 2);
    }

    private static void piece() {
        DUE.says("piece: WAY (what = 0) .. the number of its RULE (4). UNKNOWN; OUTSIDE.");
        Run r = new Run(DUE);
        r.is(UNKNOWN, "piece", 0, 0).is(UNKNOWN, "piece", 0, 5).is(1, "draw", 1, 40, 20, 30).is(2, "draw", 0, 7, 8, 9);
        r.row(new int[] {1, 40, 20, 30, 1, OUTSIDE}, "piece", 0).row(new int[] {0, 7, 8, 9, 0, OUTSIDE}, "piece", 1);
        r.is(UNKNOWN, "piece", 2, 0).is(UNKNOWN, "piece", -1, 0).is(UNKNOWN, "piece", 2, 5).is(UNKNOWN, "piece", -1, -1);
        for (int far : Due.FAR) {
            r.is(OUTSIDE, "piece", 1, far).is(UNKNOWN, "piece", far, 0).is(UNKNOWN, "piece", far, far);
        }
    }

    private static void write() {
        DUE.says("write: A WORD more: how many. OUTSIDE; FULL.");
        for (int count = 0; count <= 20; count += 20) {
            Run r = count == 0 ? new Run(DUE) : fullOfWords();
            int[][] wrong = {{1, 0, 1, 1}, {0, 1, 1, 1}, {0, 0, 100, 1}, {0, 0, 1, 100}, {-1, 0, 1, 1}, {0, -1, 1, 1}};
            for (int[] w : wrong) {
                r.is(OUTSIDE, "write", w);
            }
            for (int far : Due.FAR) {
                r.is(OUTSIDE, "write", far, 0, 1, 1).is(OUTSIDE, "write", 0, far, 1, 1);
                r.is(OUTSIDE, "write", 0, 0, far, 1).is(OUTSIDE, "write", 0, 0, 1, far);
                r.is(OUTSIDE, "write", far, far, Integer.MAX_VALUE, Integer.MAX_VALUE);
                r.is(OUTSIDE, "write", Integer.MIN_VALUE, Integer.MIN_VALUE, far, far);
            }
            r.is(count, "told", 1);
        }
    }

    private static void strike() {
        DUE.says("strike: A WORD goes: how many there are. UNKNOWN.");
        Run r = new Run(DUE);
        r.is(UNKNOWN, "strike", 0).is(1, "write", 1, 2, 3, 4).is(2, "write", 5, 6, 7, 8);
        r.is(UNKNOWN, "strike", 2).is(UNKNOWN, "strike", -1);
        for (int far : Due.FAR) {
            r.is(UNKNOWN, "strike", far);
        }
        r.is(1, "strike", 1).is(UNKNOWN, "strike", 1).is(0, "strike", 0).is(UNKNOWN, "strike", 0).is(0, "told", 4);
    }

    private static void word() {
        DUE.says("word: .. the CELL (5); NONE both: it is LOOSE. UNKNOWN; OUTSIDE.");
        Run r = new Run(DUE);
        r.is(UNKNOWN, "word", 0, 0).is(UNKNOWN, "word", 0, 6).box(10, 10, 50, 50).put("draw", 1, 30, 10, 50);
        r.is(1, "write", 60, 61, 70, 72).is(2, "write", 40, 20, 45, 26);
        r.row(new int[] {60, 61, 70, 72, NONE, NONE, OUTSIDE}, "word", 0);
        r.row(new int[] {40, 20, 45, 26, 0, 1, OUTSIDE}, "word", 1);
        r.is(UNKNOWN, "word", 2, 0).is(UNKNOWN, "word", -1, 0).is(UNKNOWN, "word", 2, 6).is(UNKNOWN, "word", -1, -1);
        for (int far : Due.FAR) {
            r.is(OUTSIDE, "word", 1, far).is(UNKNOWN, "word", far, 0).is(UNKNOWN, "word", far, far);
        }
    }
}
