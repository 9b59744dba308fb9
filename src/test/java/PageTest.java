/** Promises 1 to 8: a new object, and the page. */
public final class PageTest {
    private static final Due DUE = new Due();

    public static void main(String[] args) {
        newObject();
        set();
        draw();
        drawRefused();
        erase();
        piece();
        write();
        strike();
        word();
        DUE.end();
    }

    private static void newObject() {
        RuledTables x = new RuledTables();
        int[] first = {0, 0, 0, 0, 0, 1, 2, 1};
        for (int what = 0; what < first.length; what++) {
            DUE.is("new: told " + what, x.told(what), first[what]);
        }
        DUE.is("new: restore 0", x.restore(0), RuledTables.STATE);
        DUE.is("new: restore 1", x.restore(1), RuledTables.STATE);
        DUE.is("new: rule 0", x.rule(0, 0), RuledTables.UNKNOWN);
        DUE.is("new: table 0", x.table(0, 0), RuledTables.UNKNOWN);
    }

    private static void set() {
        RuledTables x = new RuledTables();
        int[] first = {1, 2, 1};
        int[] most = {3, 9, 5};
        for (int what = 0; what < 3; what++) {
            DUE.is("set most", x.set(what, most[what]), first[what]);
            DUE.is("set too much", x.set(what, most[what] + 1), RuledTables.OUTSIDE);
            DUE.is("set below 0", x.set(what, -1), RuledTables.OUTSIDE);
            DUE.is("told most", x.told(5 + what), most[what]);
            DUE.is("set 0", x.set(what, 0), most[what]);
            DUE.is("told 0", x.told(5 + what), 0);
        }
        DUE.is("set 3", x.set(3, 0), RuledTables.OUTSIDE);
        for (int far : Due.FAR) {
            DUE.is("set what far", x.set(far, 0), RuledTables.OUTSIDE);
            DUE.is("set n far", x.set(0, far), RuledTables.OUTSIDE);
        }
        DUE.is("slop after refusals", x.told(5), 0);
    }

    private static void draw() {
        RuledTables x = new RuledTables();
        for (int i = 0; i < 24; i++) {
            DUE.is("draw " + i, x.draw(i % 2, 4 * i, i, 99 - i), i + 1);
        }
        DUE.is("draw 25th", x.draw(0, 0, 0, 1), RuledTables.FULL);
        DUE.is("OUTSIDE is before FULL", x.draw(0, 0, 1, 1), RuledTables.OUTSIDE);
        DUE.is("told after", x.told(0), 24);
        for (int i = 0; i < 24; i++) {
            DUE.is("way " + i, x.piece(i, 0), i % 2);
            DUE.is("at " + i, x.piece(i, 1), 4 * i);
            DUE.is("from " + i, x.piece(i, 2), i);
            DUE.is("to " + i, x.piece(i, 3), 99 - i);
        }
        DUE.is("erase makes room", x.erase(5), 23);
        DUE.is("draw again", x.draw(1, 99, 0, 99), 24);
        DUE.is("what was drawn", x.piece(23, 1), 99);
    }

    private static void drawRefused() {
        RuledTables x = new RuledTables();
        int[][] wrong = {{2, 0, 0, 1}, {-1, 0, 0, 1}, {0, 100, 0, 1}, {0, -1, 0, 1}, {0, 0, -1, 1},
            {0, 0, 0, 100}, {0, 0, 5, 5}, {0, 0, 6, 5}, {0, 0, 99, 100}, {1, 0, 99, 0}};
        for (int[] w : wrong) {
            DUE.is("draw refused", x.draw(w[0], w[1], w[2], w[3]), RuledTables.OUTSIDE);
        }
        for (int far : Due.FAR) {
            DUE.is("draw way far", x.draw(far, 0, 0, 1), RuledTables.OUTSIDE);
            DUE.is("draw at far", x.draw(0, far, 0, 1), RuledTables.OUTSIDE);
            DUE.is("draw from far", x.draw(0, 0, far, 1), RuledTables.OUTSIDE);
            DUE.is("draw to far", x.draw(0, 0, 0, far), RuledTables.OUTSIDE);
        }
        DUE.is("nothing was drawn", x.told(0), 0);
    }

    private static void erase() {
        RuledTables x = new RuledTables();
        x.draw(0, 10, 1, 2);
        x.draw(1, 20, 3, 4);
        x.draw(0, 30, 5, 6);
        DUE.is("erase 3", x.erase(3), RuledTables.UNKNOWN);
        DUE.is("erase 1", x.erase(1), 2);
        DUE.is("piece 0 stays", x.piece(0, 1), 10);
        DUE.is("piece 2 is 1 now: way", x.piece(1, 0), 0);
        DUE.is("piece 2 is 1 now: at", x.piece(1, 1), 30);
        DUE.is("piece 2 is 1 now: to", x.piece(1, 3), 6);
        DUE.is("piece 2 is gone", x.piece(2, 0), RuledTables.UNKNOWN);
        DUE.is("its rule is gone", x.told(2), 2);
        DUE.is("erase the last", x.erase(1), 1);
        DUE.is("erase the only one", x.erase(0), 0);
        for (int far : Due.FAR) {
            DUE.is("erase far", x.erase(far), RuledTables.UNKNOWN);
        }
    }

    private static void piece() {
        RuledTables x = new RuledTables();
        x.draw(1, 40, 7, 9);
        x.draw(0, 50, 10, 20);
        x.draw(0, 51, 22, 25);
        x.draw(0, 30, 1, 2);
        int[] rules = {2, 1, 1, 0};
        for (int p = 0; p < 4; p++) {
            DUE.is("rule of piece " + p, x.piece(p, 4), rules[p]);
        }
        DUE.is("piece what 5", x.piece(0, 5), RuledTables.OUTSIDE);
        for (int far : Due.FAR) {
            DUE.is("piece what far", x.piece(0, far), RuledTables.OUTSIDE);
            DUE.is("UNKNOWN is before OUTSIDE", x.piece(far, far), RuledTables.UNKNOWN);
        }
        DUE.is("piece 4", x.piece(4, 0), RuledTables.UNKNOWN);
    }

    private static void write() {
        RuledTables x = new RuledTables();
        int[][] wrong = {{5, 0, 5, 1}, {6, 0, 5, 1}, {0, 5, 1, 5}, {0, 6, 1, 5}, {-1, 0, 1, 1},
            {0, -1, 1, 1}, {0, 0, 100, 1}, {0, 0, 1, 100}};
        for (int[] w : wrong) {
            DUE.is("write refused", x.write(w[0], w[1], w[2], w[3]), RuledTables.OUTSIDE);
        }
        for (int far : Due.FAR) {
            DUE.is("write left far", x.write(far, 0, 1, 1), RuledTables.OUTSIDE);
            DUE.is("write top far", x.write(0, far, 1, 1), RuledTables.OUTSIDE);
            DUE.is("write right far", x.write(0, 0, far, 1), RuledTables.OUTSIDE);
            DUE.is("write bottom far", x.write(0, 0, 1, far), RuledTables.OUTSIDE);
        }
        DUE.is("nothing was written", x.told(1), 0);
        for (int i = 0; i < 20; i++) {
            DUE.is("write " + i, x.write(i, 2 * i, i + 79, 2 * i + 61), i + 1);
        }
        DUE.is("write 21st", x.write(0, 0, 1, 1), RuledTables.FULL);
        DUE.is("OUTSIDE is before FULL", x.write(0, 0, 0, 1), RuledTables.OUTSIDE);
        for (int i = 0; i < 20; i++) {
            DUE.is("left " + i, x.word(i, 0), i);
            DUE.is("top " + i, x.word(i, 1), 2 * i);
            DUE.is("right " + i, x.word(i, 2), i + 79);
            DUE.is("bottom " + i, x.word(i, 3), 2 * i + 61);
        }
        DUE.is("all are loose", x.told(4), 20);
    }

    private static void strike() {
        RuledTables x = new RuledTables();
        x.write(1, 2, 3, 4);
        x.write(5, 6, 7, 8);
        x.write(9, 10, 11, 12);
        DUE.is("strike 3", x.strike(3), RuledTables.UNKNOWN);
        DUE.is("strike 0", x.strike(0), 2);
        DUE.is("word 1 is 0 now", x.word(0, 0), 5);
        DUE.is("word 2 is 1 now", x.word(1, 3), 12);
        DUE.is("word 2 is gone", x.word(2, 0), RuledTables.UNKNOWN);
        DUE.is("told words", x.told(1), 2);
        DUE.is("strike 1", x.strike(1), 1);
        DUE.is("strike the only one", x.strike(0), 0);
        for (int far : Due.FAR) {
            DUE.is("strike far", x.strike(far), RuledTables.UNKNOWN);
        }
    }

    private static void word() {
        RuledTables x = new RuledTables();
        box(x, 10, 10, 30, 30);
        box(x, 50, 50, 70, 70);
        x.write(20, 20, 21, 21);
        x.write(59, 60, 62, 65);
        x.write(9, 15, 11, 20);
        x.write(9, 15, 12, 20);
        x.write(29, 15, 31, 20);
        x.write(15, 9, 16, 11);
        x.write(1, 1, 99, 59);
        int[] tables = {0, 1, -6, 0, -6, -6, -6};
        for (int w = 0; w < tables.length; w++) {
            DUE.is("table of word " + w, x.word(w, 4), tables[w]);
            DUE.is("cell of word " + w, x.word(w, 5), tables[w] < 0 ? RuledTables.NONE : 0);
        }
        DUE.is("loose", x.told(4), 4);
        DUE.is("word what 6", x.word(0, 6), RuledTables.OUTSIDE);
        for (int far : Due.FAR) {
            DUE.is("word what far", x.word(0, far), RuledTables.OUTSIDE);
            DUE.is("UNKNOWN is before OUTSIDE", x.word(far, far), RuledTables.UNKNOWN);
        }
        DUE.is("word 7", x.word(7, 0), RuledTables.UNKNOWN);
    }

    private static void box(RuledTables x, int left, int top, int right, int bottom) {
        x.draw(0, top, left, right);
        x.draw(0, bottom, left, right);
        x.draw(1, left, top, bottom);
        x.draw(1, right, top, bottom);
    }
}
