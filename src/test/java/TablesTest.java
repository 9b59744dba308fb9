/** Promises 11 to 15: tables, their lines, sides, fields and cells. */
public final class TablesTest {
    private static final Due DUE = new Due();

    public static void main(String[] args) {
        oneField();
        numberedByFirstRules();
        sixTables();
        largest();
        linesAreKnownByRules();
        sides();
        oneRuleRulesASide();
        cells();
        kinds();
        stubWithinWholeCell();
        openGoesBeforeBroken();
        refused();
        DUE.end();
    }

    private static void tableIs(String name, RuledTables x, int table, int... due) {
        for (int what = 0; what < due.length; what++) {
            DUE.is(name + ": table " + table + ", " + what, x.table(table, what), due[what]);
        }
    }

    private static void cellIs(String name, RuledTables x, int cell, int... due) {
        for (int what = 0; what < due.length; what++) {
            DUE.is(name + ": cell " + cell + ", " + what, x.cell(0, cell, what), due[what]);
        }
    }

    private static void box(RuledTables x, int left, int top, int right, int bottom) {
        x.draw(0, top, left, right);
        x.draw(0, bottom, left, right);
        x.draw(1, left, top, bottom);
        x.draw(1, right, top, bottom);
    }

    private static void oneField() {
        RuledTables x = new RuledTables();
        box(x, 10, 20, 30, 50);
        tableIs("one field", x, 0, 1, 1, 1, 4, 0, 0, 0, 1);
        cellIs("one field", x, 0, 0, 0, 1, 1, 1, 0, 0);
        DUE.is("top", x.edge(0, 0, 0), 20);
        DUE.is("bottom", x.edge(0, 0, 1), 50);
        DUE.is("left", x.edge(0, 1, 0), 10);
        DUE.is("right", x.edge(0, 1, 1), 30);
        x.write(11, 21, 12, 22);
        tableIs("with a word", x, 0, 1, 1, 1, 4, 1, 0, 0, 1);
        cellIs("with a word", x, 0, 0, 0, 1, 1, 1, 0, 1);
    }

    private static void numberedByFirstRules() {
        RuledTables x = new RuledTables();
        box(x, 50, 60, 70, 80);
        box(x, 20, 60, 40, 90);
        box(x, 50, 10, 90, 30);
        int[] lefts = {50, 20, 50};
        int[] tops = {10, 60, 60};
        for (int t = 0; t < 3; t++) {
            DUE.is("left of table " + t, x.edge(t, 1, 0), lefts[t]);
            DUE.is("top of table " + t, x.edge(t, 0, 0), tops[t]);
            DUE.is("rules of table " + t, x.table(t, 3), 4);
        }
        DUE.is("tables", x.told(3), 3);
        DUE.is("rule 2 is the first of table 1", x.rule(2, 7), 1);
    }

    private static void sixTables() {
        RuledTables x = new RuledTables();
        for (int t = 0; t < 6; t++) {
            box(x, 2, 2 + 16 * t, 90, 12 + 16 * t);
        }
        DUE.is("six tables", x.told(3), 6);
        for (int t = 0; t < 6; t++) {
            tableIs("six", x, t, 1, 1, 1, 4, 0, 0, 0, 1);
            DUE.is("top " + t, x.edge(t, 0, 0), 2 + 16 * t);
        }
    }

    private static void largest() {
        RuledTables x = new RuledTables();
        for (int i = 0; i < 12; i++) {
            x.draw(0, 8 * i, 0, 88);
            x.draw(1, 8 * i, 0, 88);
        }
        tableIs("largest", x, 0, 11, 11, 121, 24, 0, 1, 0, 121);
        for (int field = 0; field < 121; field++) {
            DUE.is("field " + field, x.at(0, field / 11, field % 11), field);
        }
        cellIs("largest", x, 120, 10, 10, 1, 1, 1, 0, 0);
        RuledTables wide = new RuledTables();
        wide.draw(0, 0, 0, 99);
        wide.draw(0, 50, 0, 99);
        for (int i = 0; i < 22; i++) {
            wide.draw(1, 4 * i, 0, 50);
        }
        tableIs("wide", wide, 0, 1, 21, 21, 24, 0, 0, 0, 21);
        DUE.is("last line", wide.edge(0, 1, 21), 84);
        DUE.is("no more", wide.edge(0, 1, 22), RuledTables.NONE);
    }

    private static void linesAreKnownByRules() {
        RuledTables x = new RuledTables();
        box(x, 10, 10, 60, 60);
        x.draw(0, 30, 9, 20);
        x.draw(0, 30, 50, 61);
        x.draw(0, 40, 0, 5);
        x.draw(1, 35, 59, 80);
        tableIs("lines", x, 0, 2, 2, 1, 7, 0, 1, 0, 1);
        int[] across = {10, 30, 60, -6};
        int[] down = {10, 35, 60, -6};
        for (int line = 0; line < 4; line++) {
            DUE.is("across " + line, x.edge(0, 0, line), across[line]);
            DUE.is("down " + line, x.edge(0, 1, line), down[line]);
        }
        for (int far : Due.FAR) {
            DUE.is("line far", x.edge(0, 0, far), RuledTables.NONE);
        }
    }

    private static void sides() {
        RuledTables x = new RuledTables();
        box(x, 10, 10, 70, 50);
        x.draw(1, 30, 10, 30);
        x.draw(1, 50, 10, 50);
        x.draw(0, 30, 31, 69);
        int[][] above = {{1, 1, 1}, {0, 1, 1}, {1, 1, 1}};
        int[][] left = {{1, 1, 1, 1}, {1, 0, 1, 1}};
        for (int row = 0; row <= 2; row++) {
            for (int column = 0; column < 3; column++) {
                DUE.is("above " + row + " " + column, x.ruled(0, 0, row, column), above[row][column]);
            }
        }
        for (int row = 0; row < 2; row++) {
            for (int column = 0; column <= 3; column++) {
                DUE.is("left " + row + " " + column, x.ruled(0, 1, row, column), left[row][column]);
            }
        }
        DUE.is("no side: row", x.ruled(0, 0, 3, 0), RuledTables.UNKNOWN);
        DUE.is("no side: column", x.ruled(0, 0, 0, 3), RuledTables.UNKNOWN);
        DUE.is("no side at the left: row", x.ruled(0, 1, 2, 0), RuledTables.UNKNOWN);
        DUE.is("no side at the left: column", x.ruled(0, 1, 0, 4), RuledTables.UNKNOWN);
        x.set(2, 0);
        DUE.is("31 to 69 does not cross any more", x.table(0, 0), 2);
        DUE.is("short by one, with no reach", x.ruled(0, 0, 1, 1), 0);
        DUE.is("nor at the other end", x.ruled(0, 0, 1, 2), 0);
        x.set(2, 1);
        x.erase(6);
        x.draw(0, 30, 32, 68);
        DUE.is("short by two, with a reach of one", x.ruled(0, 0, 1, 1), 0);
        x.set(2, 2);
        DUE.is("short by two, with a reach of two", x.ruled(0, 0, 1, 1), 1);
    }

    private static void oneRuleRulesASide() {
        RuledTables x = new RuledTables();
        box(x, 10, 10, 50, 50);
        x.draw(0, 30, 10, 28);
        x.draw(0, 30, 31, 50);
        DUE.is("two rules in one line do not", x.ruled(0, 0, 1, 0), 0);
        DUE.is("one cell", x.table(0, 2), 1);
        x.set(1, 3);
        DUE.is("one rule of both does", x.ruled(0, 0, 1, 0), 1);
        DUE.is("two cells", x.table(0, 2), 2);
        RuledTables other = new RuledTables();
        box(other, 10, 10, 50, 50);
        other.draw(0, 30, 10, 50);
        other.draw(1, 30, 0, 99);
        other.draw(0, 80, 10, 50);
        DUE.is("a rule of the table at its own line alone", other.ruled(0, 1, 2, 1), 1);
        DUE.is("the outer sides stop before it", other.ruled(0, 1, 2, 0), 0);
    }

    private static void cells() {
        RuledTables x = new RuledTables();
        box(x, 0, 0, 90, 90);
        x.draw(0, 30, 30, 90);
        x.draw(0, 60, 0, 60);
        x.draw(1, 30, 0, 60);
        x.draw(1, 60, 30, 90);
        int[][] due = {{0, 1, 1}, {0, 2, 3}, {4, 4, 3}};
        for (int row = 0; row < 3; row++) {
            for (int column = 0; column < 3; column++) {
                DUE.is("at " + row + " " + column, x.at(0, row, column), due[row][column]);
            }
        }
        cellIs("pinwheel", x, 0, 0, 0, 2, 1, 2, 0, 0);
        cellIs("pinwheel", x, 1, 0, 1, 1, 2, 2, 0, 0);
        cellIs("pinwheel", x, 2, 1, 1, 1, 1, 1, 0, 0);
        cellIs("pinwheel", x, 3, 1, 2, 2, 1, 2, 0, 0);
        cellIs("pinwheel", x, 4, 2, 0, 1, 2, 2, 0, 0);
        tableIs("pinwheel", x, 0, 3, 3, 5, 8, 0, 2, 0, 5);
    }

    /** A cell like a stair that goes down to the left: its first field is not in its first column. */
    private static void kinds() {
        RuledTables x = new RuledTables();
        box(x, 0, 0, 90, 90);
        x.draw(0, 30, 0, 60);
        x.draw(0, 60, 0, 30);
        x.draw(0, 60, 60, 90);
        x.draw(1, 30, 0, 60);
        x.draw(1, 60, 0, 30);
        x.draw(1, 60, 60, 90);
        int[][] due = {{0, 1, 2}, {3, 2, 2}, {2, 2, 4}};
        for (int row = 0; row < 3; row++) {
            for (int column = 0; column < 3; column++) {
                DUE.is("stair " + row + " " + column, x.at(0, row, column), due[row][column]);
            }
        }
        cellIs("stair", x, 2, 0, 0, 3, 3, 5, 1, 0);
        cellIs("stair", x, 4, 2, 2, 1, 1, 1, 0, 0);
        tableIs("stair", x, 0, 3, 3, 5, 10, 0, 2, 0, 4);
    }

    private static void stubWithinWholeCell() {
        RuledTables x = new RuledTables();
        box(x, 0, 0, 60, 60);
        x.draw(0, 30, 0, 30);
        x.draw(1, 30, 0, 5);
        DUE.is("a side within is ruled", x.ruled(0, 0, 1, 0), 1);
        DUE.is("another one is not", x.ruled(0, 1, 0, 1), 0);
        cellIs("stub", x, 0, 0, 0, 2, 2, 4, 0, 0);
    }

    private static void openGoesBeforeBroken() {
        RuledTables x = new RuledTables();
        x.draw(0, 0, 0, 60);
        x.draw(0, 60, 0, 60);
        x.draw(1, 0, 0, 60);
        x.draw(1, 60, 0, 30);
        x.draw(0, 30, 30, 60);
        x.draw(1, 30, 0, 30);
        DUE.is("cells", x.table(0, 2), 2);
        cellIs("open", x, 0, 0, 0, 2, 2, 3, 2, 0);
        cellIs("whole", x, 1, 0, 1, 1, 1, 1, 0, 0);
        x.erase(3);
        x.draw(1, 60, 0, 60);
        cellIs("broken", x, 0, 0, 0, 2, 2, 3, 1, 0);
        openAtEachEdge(new int[] {1, 3, 2, 3}, 10, 40);
        openAtEachEdge(new int[] {0, 2, 0, 1}, 40, 70);
    }

    /** Of four cells, one is open if an edge is drawn only from one place to another one. */
    private static void openAtEachEdge(int[] open, int from, int to) {
        for (int edge = 0; edge < 4; edge++) {
            RuledTables x = new RuledTables();
            int[][] pieces = {{0, 10}, {0, 70}, {1, 10}, {1, 70}};
            for (int p = 0; p < 4; p++) {
                x.draw(pieces[p][0], pieces[p][1], p == edge ? from : 10, p == edge ? to : 70);
            }
            x.draw(0, 40, 10, 70);
            x.draw(1, 40, 10, 70);
            for (int cell = 0; cell < 4; cell++) {
                DUE.is("edge " + edge + ", kind of " + cell, x.cell(0, cell, 5), cell == open[edge] ? 2 : 0);
            }
            DUE.is("whole ones", x.table(0, 7), 3);
        }
    }

    private static void refused() {
        RuledTables x = new RuledTables();
        box(x, 10, 20, 30, 50);
        int unknown = RuledTables.UNKNOWN;
        DUE.is("table 1", x.table(1, 9), unknown);
        DUE.is("table what 8", x.table(0, 8), RuledTables.OUTSIDE);
        DUE.is("edge way 2", x.edge(0, 2, 0), RuledTables.OUTSIDE);
        DUE.is("edge table 1, way 2", x.edge(1, 2, 0), unknown);
        DUE.is("OUTSIDE is before NONE", x.edge(0, 2, 9), RuledTables.OUTSIDE);
        DUE.is("ruled way 2: before the side", x.ruled(0, 2, 9, 9), RuledTables.OUTSIDE);
        DUE.is("ruled table 1: before the way", x.ruled(1, 2, 0, 0), unknown);
        DUE.is("at row 1", x.at(0, 1, 0), unknown);
        DUE.is("at column 1", x.at(0, 0, 1), unknown);
        DUE.is("at table 1", x.at(1, 0, 0), unknown);
        DUE.is("cell 1", x.cell(0, 1, 9), unknown);
        DUE.is("cell of table 1", x.cell(1, 0, 0), unknown);
        DUE.is("cell what 7", x.cell(0, 0, 7), RuledTables.OUTSIDE);
        for (int far : Due.FAR) {
            DUE.is("table far", x.table(far, 0), unknown);
            DUE.is("table what far", x.table(0, far), RuledTables.OUTSIDE);
            DUE.is("edge table far", x.edge(far, 0, 0), unknown);
            DUE.is("edge way far", x.edge(0, far, 0), RuledTables.OUTSIDE);
            DUE.is("ruled table far", x.ruled(far, far, 0, 0), unknown);
            DUE.is("ruled way far", x.ruled(0, far, far, 0), RuledTables.OUTSIDE);
            DUE.is("ruled row far", x.ruled(0, 0, far, 0), unknown);
            DUE.is("ruled column far", x.ruled(0, 1, 0, far), unknown);
            DUE.is("at table far", x.at(far, 0, 0), unknown);
            DUE.is("at row far", x.at(0, far, 0), unknown);
            DUE.is("at column far", x.at(0, 0, far), unknown);
            DUE.is("cell table far", x.cell(far, 0, 0), unknown);
            DUE.is("cell far", x.cell(0, far, far), unknown);
            DUE.is("cell what far", x.cell(0, 0, far), RuledTables.OUTSIDE);
        }
    }
}
