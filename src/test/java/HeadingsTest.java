/** Promises 19 to 22: headings, images, and what is told. */
public final class HeadingsTest {
    private static final Due DUE = new Due();

    public static void main(String[] args) {
        oneRowHasNone();
        firstRowIsPlain();
        twoRowsOfHeads();
        noPlainRow();
        onlyTheLastRowIsPlain();
        wideAtOneEnd();
        eachOnce();
        refused();
        images();
        imagesStayApart();
        told();
        DUE.end();
    }

    private static void box(RuledTables x, int left, int top, int right, int bottom) {
        x.draw(0, top, left, right);
        x.draw(0, bottom, left, right);
        x.draw(1, left, top, bottom);
        x.draw(1, right, top, bottom);
    }

    private static void headingsAre(String name, RuledTables x, int column, int... due) {
        for (int k = 0; k < due.length; k++) {
            DUE.is(name + ": heading " + column + ", " + k, x.heading(0, column, k), due[k]);
        }
        DUE.is(name + ": no more of " + column, x.heading(0, column, due.length), RuledTables.NONE);
        for (int far : Due.FAR) {
            DUE.is(name + ": k far", x.heading(0, column, far), RuledTables.NONE);
        }
    }

    private static void oneRowHasNone() {
        RuledTables x = new RuledTables();
        box(x, 10, 10, 50, 50);
        x.draw(1, 30, 10, 50);
        DUE.is("one row: heads", x.table(0, 5), 0);
        headingsAre("one row", x, 0);
        headingsAre("one row", x, 1);
    }

    private static void firstRowIsPlain() {
        RuledTables x = new RuledTables();
        box(x, 10, 10, 50, 70);
        x.draw(1, 30, 10, 70);
        x.draw(0, 30, 10, 50);
        x.draw(0, 50, 10, 50);
        DUE.is("plain: heads", x.table(0, 5), 1);
        headingsAre("plain", x, 0, 0);
        headingsAre("plain", x, 1, 1);
    }

    /** A head over columns 1 and 2, two under it, and one beside them over both rows. */
    private static void twoRowsOfHeads() {
        RuledTables x = new RuledTables();
        box(x, 0, 0, 90, 90);
        x.draw(0, 20, 30, 90);
        x.draw(0, 40, 0, 90);
        x.draw(0, 60, 0, 90);
        x.draw(1, 30, 0, 90);
        x.draw(1, 60, 20, 90);
        DUE.is("two rows: heads", x.table(0, 5), 2);
        headingsAre("two rows", x, 0, 0);
        headingsAre("two rows", x, 1, 1, 2);
        headingsAre("two rows", x, 2, 1, 3);
    }

    private static void noPlainRow() {
        RuledTables x = new RuledTables();
        box(x, 0, 0, 90, 90);
        x.draw(0, 30, 0, 90);
        x.draw(0, 60, 0, 90);
        x.draw(1, 45, 0, 5);
        DUE.is("no plain row: heads", x.table(0, 5), 2);
        headingsAre("no plain row", x, 0, 0, 1);
        headingsAre("no plain row", x, 1, 0, 1);
    }

    private static void onlyTheLastRowIsPlain() {
        RuledTables x = new RuledTables();
        box(x, 0, 0, 90, 90);
        x.draw(0, 30, 0, 90);
        x.draw(0, 60, 0, 90);
        x.draw(1, 45, 60, 90);
        DUE.is("last row plain: heads", x.table(0, 5), 2);
        headingsAre("last row plain", x, 1, 0, 1);
    }

    /** Only the first cell of the first row, or only the last one, is wide. */
    private static void wideAtOneEnd() {
        for (int begin = 0; begin <= 60; begin += 60) {
            RuledTables x = new RuledTables();
            box(x, 0, 0, 90, 90);
            x.draw(0, 20, 0, 90);
            x.draw(0, 40, 0, 90);
            x.draw(0, 60, 0, 90);
            x.draw(1, 30, begin == 0 ? 20 : 0, 90);
            x.draw(1, 60, begin == 0 ? 0 : 20, 90);
            DUE.is("wide at one end: heads", x.table(0, 5), 2);
            headingsAre("wide at one end", x, 1, begin == 0 ? 0 : 1, 3);
        }
    }

    /** A cell goes round another one, which a rule at its left holds: it is above and below that in one column. */
    private static void eachOnce() {
        RuledTables x = new RuledTables();
        box(x, 0, 0, 90, 90);
        x.draw(0, 20, 0, 60);
        x.draw(0, 40, 30, 60);
        x.draw(0, 60, 0, 90);
        x.draw(1, 30, 20, 40);
        x.draw(1, 60, 20, 40);
        DUE.is("a ring: heads", x.table(0, 5), 3);
        DUE.is("a ring: cells", x.table(0, 2), 3);
        headingsAre("a ring", x, 0, 0);
        headingsAre("a ring", x, 1, 0, 1);
        headingsAre("a ring", x, 2, 0);
    }

    private static void refused() {
        RuledTables x = new RuledTables();
        box(x, 10, 10, 50, 50);
        x.draw(0, 30, 10, 50);
        DUE.is("heading table 1", x.heading(1, 0, 0), RuledTables.UNKNOWN);
        DUE.is("heading column 1", x.heading(0, 1, 0), RuledTables.UNKNOWN);
        DUE.is("image 2", x.image(2), RuledTables.OUTSIDE);
        DUE.is("restore 2", x.restore(2), RuledTables.OUTSIDE);
        DUE.is("told 8", x.told(8), RuledTables.OUTSIDE);
        for (int far : Due.FAR) {
            DUE.is("heading table far", x.heading(far, 0, 0), RuledTables.UNKNOWN);
            DUE.is("heading column far", x.heading(0, far, 0), RuledTables.UNKNOWN);
            DUE.is("image far", x.image(far), RuledTables.OUTSIDE);
            DUE.is("restore far", x.restore(far), RuledTables.OUTSIDE);
            DUE.is("told far", x.told(far), RuledTables.OUTSIDE);
        }
    }

    private static void images() {
        RuledTables x = new RuledTables();
        box(x, 10, 10, 50, 50);
        x.write(20, 20, 30, 30);
        x.set(0, 3);
        x.set(1, 7);
        x.set(2, 4);
        DUE.is("image", x.image(1), 1);
        x.erase(0);
        x.strike(0);
        x.write(1, 2, 3, 4);
        x.write(5, 6, 7, 8);
        x.set(0, 0);
        x.set(1, 0);
        x.set(2, 0);
        DUE.is("the other one was not kept", x.restore(0), RuledTables.STATE);
        DUE.is("a refused restore changes nothing", x.told(1), 2);
        DUE.is("restore", x.restore(1), 1);
        int[] due = {4, 1, 4, 1, 0, 3, 7, 4};
        for (int what = 0; what < due.length; what++) {
            DUE.is("restored: told " + what, x.told(what), due[what]);
        }
        DUE.is("restored: word", x.word(0, 2), 30);
        DUE.is("restored: way", x.piece(0, 0), 0);
        DUE.is("restored: to", x.piece(0, 3), 50);
        DUE.is("restored: the last one", x.piece(3, 1), 50);
        DUE.is("restored: no more", x.piece(4, 0), RuledTables.UNKNOWN);
        x.draw(1, 30, 10, 50);
        DUE.is("an image stays as it was", x.restore(1), 1);
        DUE.is("an image stays as it was: pieces", x.told(0), 4);
    }

    private static void imagesStayApart() {
        RuledTables x = new RuledTables();
        DUE.is("an image of nothing", x.image(0), 1);
        x.draw(0, 10, 10, 50);
        DUE.is("another image", x.image(1), 1);
        x.draw(0, 20, 10, 50);
        DUE.is("restore 0", x.restore(0), 1);
        DUE.is("nothing", x.told(0), 0);
        DUE.is("restore 1", x.restore(1), 1);
        DUE.is("one piece", x.told(0), 1);
        x.draw(0, 30, 10, 50);
        DUE.is("an image over another one", x.image(0), 1);
        x.erase(0);
        x.erase(0);
        DUE.is("restore 0 anew", x.restore(0), 1);
        DUE.is("two pieces", x.told(0), 2);
        DUE.is("second piece", x.piece(1, 1), 30);
    }

    private static void told() {
        RuledTables x = new RuledTables();
        box(x, 10, 10, 30, 30);
        box(x, 50, 50, 70, 70);
        x.draw(0, 10, 32, 35);
        x.write(20, 20, 21, 21);
        x.write(40, 40, 41, 41);
        x.write(42, 42, 43, 43);
        x.set(0, 2);
        x.set(1, 3);
        x.set(2, 0);
        int[] due = {9, 3, 8, 2, 2, 2, 3, 0};
        for (int what = 0; what < due.length; what++) {
            DUE.is("told " + what, x.told(what), due[what]);
        }
    }
}
