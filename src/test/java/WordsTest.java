/** Promises 16 to 18: words that are read, lines that are missed, and mending. */
public final class WordsTest {
    private static final Due DUE = new Due();

    public static void main(String[] args) {
        reading();
        middlesAreExact();
        middleOnALineWithinACell();
        firstTableTakesTheWord();
        missedDown();
        missedAcross();
        missedInOrder();
        onlyWholeCells();
        mending();
        mendingIsFull();
        mostMissed();
        refused();
        DUE.end();
    }

    private static void box(RuledTables x, int left, int top, int right, int bottom) {
        x.draw(0, top, left, right);
        x.draw(0, bottom, left, right);
        x.draw(1, left, top, bottom);
        x.draw(1, right, top, bottom);
    }

    /** One whole cell over two rows and two columns, with lines at 50 of which only ends are drawn. */
    private static RuledTables fourFields() {
        RuledTables x = new RuledTables();
        box(x, 10, 10, 90, 90);
        x.draw(0, 50, 5, 15);
        x.draw(1, 50, 5, 15);
        return x;
    }

    private static void missedIs(String name, RuledTables x, int k, int... due) {
        for (int what = 0; what < due.length; what++) {
            DUE.is(name + ": missed " + k + ", " + what, x.missed(0, k, what), due[what]);
        }
    }

    private static void reading() {
        RuledTables x = new RuledTables();
        box(x, 10, 10, 50, 90);
        box(x, 60, 10, 90, 90);
        x.write(30, 40, 32, 50);
        x.write(20, 44, 24, 46);
        x.write(20, 43, 40, 47);
        x.write(70, 20, 80, 30);
        x.write(12, 20, 14, 69);
        x.write(40, 12, 48, 76);
        x.write(1, 1, 3, 3);
        int[] order = {5, 4, 1, 2, 0, RuledTables.NONE};
        for (int k = 0; k < order.length; k++) {
            DUE.is("read " + k, x.read(0, 0, k), order[k]);
        }
        DUE.is("the other table", x.read(1, 0, 0), 3);
        DUE.is("the other table: no more", x.read(1, 0, 1), RuledTables.NONE);
        DUE.is("words of the cell", x.cell(0, 0, 6), 5);
        DUE.is("words of the table", x.table(0, 4), 5);
        for (int far : Due.FAR) {
            DUE.is("read k far", x.read(0, 0, far), RuledTables.NONE);
        }
        x.strike(1);
        DUE.is("numbers go down", x.read(0, 0, 2), 1);
        DUE.is("one less in the cell", x.cell(0, 0, 6), 4);
        DUE.is("the first one stays", x.read(0, 0, 3), 0);
    }

    private static void middlesAreExact() {
        RuledTables x = new RuledTables();
        box(x, 10, 10, 50, 50);
        x.draw(1, 30, 10, 50);
        x.write(29, 20, 32, 21);
        x.write(29, 20, 31, 21);
        x.write(28, 20, 31, 21);
        x.write(20, 10, 21, 11);
        x.write(20, 9, 21, 11);
        x.write(20, 49, 21, 50);
        x.write(49, 20, 51, 21);
        int[] cells = {1, -6, 0, 0, -6, 0, -6};
        for (int w = 0; w < cells.length; w++) {
            DUE.is("cell of word " + w, x.word(w, 5), cells[w]);
        }
        DUE.is("loose", x.told(4), 3);
    }

    private static void middleOnALineWithinACell() {
        RuledTables x = fourFields();
        x.write(40, 20, 60, 30);
        x.write(20, 40, 30, 60);
        x.write(40, 20, 61, 30);
        DUE.is("one cell", x.table(0, 2), 1);
        DUE.is("on a line down", x.word(0, 4), RuledTables.NONE);
        DUE.is("on a line across", x.word(1, 4), RuledTables.NONE);
        DUE.is("on none", x.word(2, 4), 0);
    }

    private static void firstTableTakesTheWord() {
        RuledTables x = new RuledTables();
        box(x, 30, 30, 60, 60);
        box(x, 10, 10, 90, 90);
        x.write(40, 40, 50, 50);
        x.write(20, 20, 25, 25);
        DUE.is("the outer one is first", x.edge(0, 0, 0), 10);
        DUE.is("it has both: 0", x.word(0, 4), 0);
        DUE.is("it has both: 1", x.word(1, 4), 0);
        DUE.is("none for the inner one", x.table(1, 4), 0);
        x.draw(1, 45, 10, 11);
        DUE.is("a line of the outer one", x.table(0, 1), 2);
        DUE.is("now the inner one has it", x.word(0, 4), 1);
        DUE.is("words of the inner one", x.table(1, 4), 1);
        DUE.is("read there", x.read(1, 0, 0), 0);
    }

    private static void missedDown() {
        int[][] pairs = {{20, 50, 50, 60, 1}, {20, 51, 50, 60, 0}, {20, 50, 49, 60, 0}, {20, 30, 30, 50, 0},
            {50, 60, 60, 70, 0}, {20, 49, 51, 60, 1}};
        for (int[] p : pairs) {
            RuledTables x = fourFields();
            x.write(p[0], 20, p[1], 30);
            x.write(p[2], 20, p[3], 30);
            DUE.is("down " + p[1] + " " + p[2], x.table(0, 6), p[4]);
            if (p[4] == 1) {
                missedIs("down", x, 0, 0, 1, 1);
            }
        }
    }

    private static void missedAcross() {
        int[][] pairs = {{20, 50, 50, 60, 1}, {20, 51, 50, 60, 0}, {20, 50, 49, 60, 0}, {20, 30, 30, 50, 0},
            {50, 60, 60, 70, 0}, {20, 49, 51, 60, 1}};
        for (int[] p : pairs) {
            RuledTables x = fourFields();
            x.write(20, p[0], 30, p[1]);
            x.write(20, p[2], 30, p[3]);
            DUE.is("across " + p[1] + " " + p[2], x.table(0, 6), p[4]);
            if (p[4] == 1) {
                missedIs("across", x, 0, 0, 0, 1);
            }
        }
        RuledTables loose = fourFields();
        loose.write(20, 20, 30, 30);
        loose.write(60, 60, 70, 70);
        loose.write(40, 40, 60, 60);
        DUE.is("a loose word is no word of the cell", loose.table(0, 6), 2);
    }

    private static void missedInOrder() {
        RuledTables x = new RuledTables();
        box(x, 0, 0, 90, 90);
        x.draw(0, 45, 0, 90);
        x.draw(0, 22, 0, 5);
        x.draw(0, 66, 0, 5);
        x.draw(1, 30, 0, 5);
        x.draw(1, 60, 0, 5);
        for (int top = 2; top < 90; top += 22) {
            x.write(5, top, 25, top + 16);
            x.write(35, top, 55, top + 16);
            x.write(65, top, 85, top + 16);
        }
        int[][] due = {{0, 1, 1}, {0, 1, 2}, {0, 0, 1}, {1, 1, 1}, {1, 1, 2}, {1, 0, 3}};
        DUE.is("missed", x.table(0, 6), due.length);
        for (int k = 0; k < due.length; k++) {
            missedIs("in order", x, k, due[k]);
        }
        missedIs("no more", x, due.length, -6, -6, -6);
        for (int far : Due.FAR) {
            missedIs("far", x, far, -6, -6, -6);
        }
        DUE.is("mend", x.mend(0), 9 + due.length);
        int[][] pieces = {{1, 30, 0, 45}, {1, 60, 0, 45}, {0, 22, 0, 90},
            {1, 30, 45, 90}, {1, 60, 45, 90}, {0, 66, 0, 90}};
        for (int k = 0; k < pieces.length; k++) {
            for (int what = 0; what < 4; what++) {
                DUE.is("piece " + k + ", " + what, x.piece(9 + k, what), pieces[k][what]);
            }
        }
        DUE.is("all fields are cells now", x.table(0, 2), 12);
        DUE.is("nothing is missed now", x.table(0, 6), 0);
    }

    private static void onlyWholeCells() {
        RuledTables x = new RuledTables();
        box(x, 10, 10, 90, 90);
        x.draw(0, 50, 10, 50);
        x.draw(1, 50, 50, 90);
        x.write(20, 20, 30, 30);
        x.write(60, 20, 70, 30);
        x.write(60, 60, 70, 70);
        DUE.is("three words in a cell", x.cell(0, 0, 6), 3);
        DUE.is("broken", x.cell(0, 0, 5), 1);
        DUE.is("broken: nothing missed", x.table(0, 6), 0);
        DUE.is("broken: nothing to mend", x.mend(0), RuledTables.NO);
        x.draw(0, 50, 50, 90);
        DUE.is("whole: missed", x.table(0, 6), 1);
        x.erase(3);
        x.draw(1, 90, 50, 90);
        DUE.is("open", x.cell(0, 0, 5), 2);
        DUE.is("open: nothing missed", x.table(0, 6), 0);
    }

    private static void mending() {
        RuledTables x = fourFields();
        DUE.is("nothing", x.mend(0), RuledTables.NO);
        x.write(20, 20, 30, 30);
        x.write(60, 60, 70, 70);
        DUE.is("mend", x.mend(0), 8);
        int[][] due = {{1, 50, 10, 90}, {0, 50, 10, 90}};
        for (int p = 0; p < 2; p++) {
            for (int what = 0; what < 4; what++) {
                DUE.is("piece " + p + ", " + what, x.piece(6 + p, what), due[p][what]);
            }
        }
        DUE.is("cells", x.table(0, 2), 4);
        DUE.is("word 1", x.word(1, 5), 3);
        DUE.is("again", x.mend(0), RuledTables.NO);
    }

    private static void mendingIsFull() {
        RuledTables x = fourFields();
        x.write(20, 20, 30, 30);
        x.write(60, 60, 70, 70);
        for (int i = 6; i < 23; i++) {
            x.draw(0, 99, 10, 20);
        }
        DUE.is("23 pieces", x.told(0), 23);
        DUE.is("two are too many", x.mend(0), RuledTables.FULL);
        DUE.is("nothing was drawn", x.told(0), 23);
        DUE.is("and is missed as yet", x.table(0, 6), 2);
        x.erase(22);
        DUE.is("two are not too many", x.mend(0), 24);
        DUE.is("NO is before FULL", x.mend(0), RuledTables.NO);
    }

    private static void mostMissed() {
        RuledTables x = new RuledTables();
        for (int i = 0; i < 11; i++) {
            x.draw(0, 9 * i, 0, 99);
        }
        x.draw(1, 0, 0, 99);
        x.draw(1, 99, 0, 99);
        for (int i = 0; i < 11; i++) {
            x.draw(1, 10 + 7 * i, 0, 1);
        }
        for (int i = 0; i < 10; i++) {
            x.write(2, 9 * i + 3, 8, 9 * i + 6);
            x.write(91, 9 * i + 3, 97, 9 * i + 6);
        }
        DUE.is("rows", x.table(0, 0), 10);
        DUE.is("columns", x.table(0, 1), 12);
        DUE.is("cells", x.table(0, 2), 10);
        DUE.is("missed", x.table(0, 6), 110);
        for (int k = 0; k < 110; k++) {
            missedIs("most", x, k, k / 11, 1, 1 + k % 11);
        }
        DUE.is("full", x.mend(0), RuledTables.FULL);
    }

    private static void refused() {
        RuledTables x = fourFields();
        int unknown = RuledTables.UNKNOWN;
        DUE.is("read table 1", x.read(1, 0, 0), unknown);
        DUE.is("read cell 1", x.read(0, 1, 0), unknown);
        DUE.is("missed table 1", x.missed(1, 0, 9), unknown);
        DUE.is("missed what 3", x.missed(0, 0, 3), RuledTables.OUTSIDE);
        DUE.is("mend table 1", x.mend(1), unknown);
        for (int far : Due.FAR) {
            DUE.is("read table far", x.read(far, 0, 0), unknown);
            DUE.is("read cell far", x.read(0, far, 0), unknown);
            DUE.is("missed table far", x.missed(far, 0, 0), unknown);
            DUE.is("OUTSIDE is before NONE", x.missed(0, far, far), RuledTables.OUTSIDE);
            DUE.is("mend far", x.mend(far), unknown);
        }
    }
}
