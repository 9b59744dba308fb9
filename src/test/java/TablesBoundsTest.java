/** The sentences about tables that name a bound: Terms 3, promises 11 to 15. */
public final class TablesBoundsTest {
    private static final Due DUE = new Due();
    private static final int UNKNOWN = RuledTables.UNKNOWN, OUTSIDE = RuledTables.OUTSIDE, NONE = RuledTables.NONE;

    public static void main(String[] args) {
        twoPlacesAtLeast();
        twoRulesAtOnePlace();
        byWayOfOthers();
        notCrossing();
        mostTables();
        mostFields();
        mostFieldsOfLaterTables();
        linesRising();
        mostLines();
        sidesAtTheEnd();
        ruledWithinReach();
        ruledByOneRule();
        ruledByARuleOfTheTable();
        ruledAtItsLine();
        ruledNoMore();
        oneCellOrAllApart();
        firstRowAndColumn();
        spansBothWays();
        open();
        openBeforeBroken();
        fewerFieldsThanItSpans();
        table();
        edge();
        ruled();
        at();
        cell();
        DUE.end();
    }

    /** Two rows and three columns, all sides ruled. */
    private static Run grid() {
        return new Run(DUE).box(10, 20, 70, 60).put("draw", 0, 40, 10, 70).put("draw", 1, 30, 20, 60)
            .put("draw", 1, 50, 20, 60);
    }

    private static void twoPlacesAtLeast() {
        DUE.says("make a TABLE, if those ACROSS lie AT two PLACES at least, and those DOWN, too");
        for (int way = 0; way < 2; way++) {
            Run r = new Run(DUE).is(0, "told", 3).turned(way, 0, 20, 10, 50).is(0, "told", 3);
            r.turned(way, 1, 10, 10, 90).turned(way, 1, 30, 10, 90).turned(way, 1, 50, 10, 90);
            r.is(0, "told", 3).is(UNKNOWN, "table", 0, 0).is(NONE, "rule", 0, 7).is(NONE, "rule", 3, 7);
            r.turned(way, 0, 60, 10, 30).is(1, "told", 3).is(1, "table", 0, way).is(2, "table", 0, 1 - way);
            r.is(4, "erase", 0).is(0, "told", 3);
        }
    }

    private static void twoRulesAtOnePlace() {
        DUE.says("lie AT two PLACES at least");
        for (int way = 0; way < 2; way++) {
            Run r = new Run(DUE).put("set", 2, 5).turned(way, 0, 20, 10, 48).turned(way, 0, 20, 52, 90);
            r.turned(way, 1, 10, 0, 99).turned(way, 1, 50, 0, 99).turned(way, 1, 90, 0, 99);
            r.is(5, "told", 2).is(0, "told", 3).turned(way, 0, 21, 10, 90).is(4, "told", 2).is(0, "told", 3);
            r.put("set", 0, 0).is(6, "told", 2).is(1, "told", 3).is(1, "table", 0, way).is(6, "table", 0, 3);
            r.is(20, "edge", 0, way, 0).is(21, "edge", 0, way, 1).is(NONE, "edge", 0, way, 2);
        }
    }

    private static void byWayOfOthers() {
        DUE.says("RULES that CROSS, by way of others, too, make a TABLE");
        for (int way = 0; way < 2; way++) {
            Run r = new Run(DUE).turned(way, 0, 10, 10, 20).turned(way, 1, 10, 10, 50);
            r.turned(way, 1, 50, 40, 60).is(0, "told", 3).turned(way, 0, 50, 10, 50).is(1, "told", 3);
            r.row(new int[] {1, 1, 1, 4, 0, 0, 0, 0}, "table", 0).is(2, "cell", 0, 0, 5);
        }
    }

    /** A rule that crosses none is of no table, be it the first one or the last one of its way. */
    private static void notCrossing() {
        DUE.says("RULES that CROSS, by way of others, too, make a TABLE");
        Run r = new Run(DUE).put("draw", 0, 20, 20, 60).put("draw", 0, 20, 50, 80).put("draw", 0, 60, 20, 80);
        r.put("draw", 1, 20, 20, 60).put("draw", 1, 80, 20, 60).put("draw", 0, 10, 40, 50).put("draw", 0, 70, 40, 50);
        r.put("draw", 1, 10, 40, 50).put("draw", 1, 90, 40, 50).is(8, "told", 2).is(1, "told", 3).is(4, "table", 0, 3);
        int[] tables = {NONE, 0, 0, NONE, NONE, 0, 0, NONE};
        for (int rule = 0; rule < tables.length; rule++) {
            r.is(tables[rule], "rule", rule, 7);
        }
    }

    private static void mostTables() {
        DUE.says("TABLES are numbered by their first RULES.");
        Run r = new Run(DUE);
        for (int t = 5; t >= 0; t--) {
            r.is(5 - t, "told", 3).box(t % 2 == 0 ? 50 : 5, 3 + 15 * t, t % 2 == 0 ? 80 : 35, 13 + 15 * t);
        }
        r.is(6, "told", 3).is(UNKNOWN, "table", 6, 0).is(24, "told", 0);
        for (int t = 0; t < 6; t++) {
            r.row(new int[] {1, 1, 1, 4, 0, 0, 0, 1, OUTSIDE}, "table", t).is(3 + 15 * t, "edge", t, 0, 0);
            r.is(t % 2 == 0 ? 50 : 5, "edge", t, 1, 0).is(t, "rule", 2 * t, 7).is(t, "rule", 2 * t + 1, 7);
        }
    }

    private static void mostFields() {
        DUE.says("a FIELD is where a ROW and a COLUMN meet");
        Run apart = new Run(DUE);
        Run one = new Run(DUE).box(0, 0, 88, 88);
        for (int i = 0; i < 12; i++) {
            apart.put("draw", 0, 8 * i, 0, 88).put("draw", 1, 8 * i, 0, 88);
            if (i > 0 && i < 11) {
                one.put("draw", 0, 8 * i, 0, 3).put("draw", 1, 8 * i, 85, 88);
            }
        }
        apart.row(new int[] {11, 11, 121, 24, 0, 1, 0, 121}, "table", 0);
        one.row(new int[] {11, 11, 1, 24, 0, 10, 0, 1}, "table", 0).row(new int[] {0, 0, 11, 11, 121, 0, 0}, "cell", 0, 0);
        for (int field = 0; field < 121; field++) {
            apart.is(field, "at", 0, field / 11, field % 11);
            one.is(0, "at", 0, field / 11, field % 11);
        }
        apart.row(new int[] {10, 10, 1, 1, 1, 0, 0}, "cell", 0, 120).is(UNKNOWN, "cell", 0, 121, 0);
    }

    /** Small tables come first; all pieces that are left make one more. */
    private static void mostFieldsOfLaterTables() {
        DUE.says("RULES that CROSS, by way of others, too, make a TABLE .. TABLES are numbered by their first RULES.");
        for (int before = 0; before < 6; before++) {
            int left = 24 - 4 * before;
            for (int across : new int[] {2, left / 2, left - 2}) {
                Run r = new Run(DUE);
                for (int t = 0; t < before; t++) {
                    r.box(10 * t, 0, 10 * t + 5, 5);
                }
                for (int i = 0; i < across; i++) {
                    r.put("draw", 0, 10 + 4 * i, 0, 99);
                }
                for (int i = 0; i < left - across; i++) {
                    r.put("draw", 1, 4 * i, 10, 99);
                }
                int rows = across - 1;
                int columns = left - across - 1;
                int heads = rows > 1 ? 1 : 0;
                r.is(before + 1, "told", 3).is(24, "told", 0);
                r.row(new int[] {rows, columns, rows * columns, left, 0, heads, 0, rows * columns}, "table", before);
                r.row(new int[] {rows - 1, columns - 1, 1, 1, 1, 0, 0}, "cell", before, rows * columns - 1);
                r.is(rows * columns - 1, "at", before, rows - 1, columns - 1);
                r.is(1, "ruled", before, 0, rows, columns - 1).is(1, "ruled", before, 1, rows - 1, columns);
            }
        }
    }

    private static void linesRising() {
        DUE.says("LINES of a TABLE: PLACES at which its RULES lie, of each WAY, rising, numbered from 0 on.");
        Run r = new Run(DUE).put("set", 0, 0).box(20, 10, 80, 90).put("draw", 0, 50, 10, 30).put("draw", 0, 50, 70, 90);
        r.put("draw", 0, 89, 20, 80).put("draw", 1, 21, 5, 95).put("draw", 0, 40, 0, 10).is(9, "told", 2);
        r.row(new int[] {10, 50, 89, 90, NONE}, "edge", 0, 0).row(new int[] {20, 21, 80, NONE}, "edge", 0, 1);
        r.is(3, "table", 0, 0).is(2, "table", 0, 1).is(8, "table", 0, 3);
    }

    private static void mostLines() {
        DUE.says("ROWS lie between two LINES ACROSS that follow one another, COLUMNS between those DOWN");
        for (int way = 0; way < 2; way++) {
            Run r = new Run(DUE).turned(way, 1, 10, 0, 99).turned(way, 1, 80, 0, 99);
            for (int i = 0; i < 22; i++) {
                r.turned(way, 0, 4 * i, 10, 80);
            }
            r.is(21, "table", 0, way).is(1, "table", 0, 1 - way).is(21, "table", 0, 2).is(21, "table", 0, 7);
            for (int i = 0; i < 21; i++) {
                r.is(4 * i, "edge", 0, way, i).is(i, "at", 0, way == 0 ? i : 0, way == 0 ? 0 : i);
                r.row(new int[] {way == 0 ? i : 0, way == 0 ? 0 : i, 1, 1, 1, 0, 0}, "cell", 0, i);
            }
            r.is(84, "edge", 0, way, 21).is(NONE, "edge", 0, way, 22).is(UNKNOWN, "cell", 0, 21, 0);
            r.put("write", 84, 84, 85, 85).put("write", 98, 98, 99, 99).is(NONE, "word", 0, 4).is(NONE, "word", 1, 4);
            r.put("write", 80, 80, 81, 81).is(NONE, "word", 2, 4).put("write", way == 0 ? 70 : 81, way == 0 ? 81 : 70,
                way == 0 ? 71 : 82, way == 0 ? 82 : 71).is(20, "word", 3, 5);
        }
    }

    private static void sidesAtTheEnd() {
        DUE.says("at the end the ROW behind the last one, the COLUMN behind the last one have such SIDES, too");
        for (int way = 0; way < 2; way++) {
            Run r = grid();
            int rows = way == 0 ? 3 : 2;
            int columns = way == 1 ? 4 : 3;
            for (int row = -1; row <= 4; row++) {
                for (int column = -1; column <= 5; column++) {
                    boolean isSide = row >= 0 && row < rows && column >= 0 && column < columns;
                    r.is(isSide ? 1 : UNKNOWN, "ruled", 0, way, row, column);
                }
            }
        }
    }

    private static void ruledWithinReach() {
        DUE.says("whose FROM, less REACH, is no greater than where the SIDE begins, and whose TO, and REACH, no less");
        for (int reach = 0; reach <= 5; reach++) {
            for (int base = 0; base <= 19; base += 19) {
                for (int way = 0; way < 2; way++) {
                    shortIs(reach, base, way, reach, 0, 1, 1);
                    shortIs(reach, base, way, reach + 1, 0, 0, 1);
                    shortIs(reach, base, way, 0, reach, 1, 1);
                    shortIs(reach, base, way, 0, reach + 1, 1, 0);
                }
            }
        }
    }

    /** Four fields, with a rule of a way between them that is too short by so much at its ends. */
    private static void shortIs(int reach, int base, int way, int from, int to, int first, int second) {
        Run r = new Run(DUE).put("set", 2, reach).box(base, base, base + 80, base + 80);
        r.turned(way, 1, base + 40, base, base + 80).turned(way, 0, base + 40, base + from, base + 80 - to);
        r.is(6, "table", 0, 3).is(first, "ruled", 0, way, way == 0 ? 1 : 0, way == 0 ? 0 : 1);
        r.is(second, "ruled", 0, way, 1, 1).is(first + second == 2 ? 4 : 3, "table", 0, 2);
    }

    private static void ruledByOneRule() {
        DUE.says("It is RULED, if one RULE of the TABLE lies AT its LINE");
        for (int way = 0; way < 2; way++) {
            Run r = new Run(DUE).box(10, 10, 50, 50).turned(way, 0, 30, 10, 28).turned(way, 0, 30, 31, 50);
            int row = way == 0 ? 1 : 0;
            r.is(6, "table", 0, 3).is(0, "ruled", 0, way, row, 1 - row).is(1, "table", 0, 2);
            r.put("set", 1, 3).is(5, "table", 0, 3).is(1, "ruled", 0, way, row, 1 - row).is(2, "table", 0, 2);
        }
    }

    /** A rule lies between the lines at 60 and 80, whose own rules are too short to meet it. */
    private static void ruledByARuleOfTheTable() {
        DUE.says("It is RULED, if one RULE of the TABLE lies AT its LINE");
        for (int way = 0; way < 2; way++) {
            Run r = new Run(DUE).box(0, 0, 90, 90).turned(way, 1, 60, 0, 20).turned(way, 1, 80, 0, 20);
            r.turned(way, 0, 50, 0, 40).turned(way, 0, 50, 60, 80);
            r.is(8, "told", 2).is(NONE, "rule", way == 0 ? 2 : 6, 7).is(7, "table", 0, 3);
            r.is(0, "ruled", 0, way, 1, 1).turned(way, 1, 60, 20, 50).is(8, "table", 0, 3).is(1, "ruled", 0, way, 1, 1);
        }
    }

    /** Rules one above another, each at a line of its own: none of them rules a side of the other one's line. */
    private static void ruledAtItsLine() {
        DUE.says("lies AT its LINE");
        for (int way = 0; way < 2; way++) {
            Run r = new Run(DUE).put("set", 0, 0).box(10, 10, 70, 70).turned(way, 1, 40, 10, 70);
            r.turned(way, 0, 30, 10, 40).turned(way, 0, 31, 40, 70);
            int[][] due = {{1, 1}, {1, 0}, {0, 1}, {1, 1}};
            for (int line = 0; line < 4; line++) {
                for (int k = 0; k < 2; k++) {
                    r.is(due[line][k], "ruled", 0, way, way == 0 ? line : k, way == 0 ? k : line);
                }
            }
        }
    }

    /** The same object is asked before and after: each side in turn is ruled, then it is not, then it is again. */
    private static void ruledNoMore() {
        DUE.says("a side of a field is ruled, or it is not");
        int[][] sides = {{0, 0, 0}, {0, 1, 0}, {1, 0, 0}, {1, 0, 1}};
        int[] ats = {10, 50, 10, 50};
        for (int i = 0; i < 4; i++) {
            int way = sides[i][0];
            Run r = new Run(DUE).box(10, 10, 50, 50);
            for (int time = 0; time < 2; time++) {
                r.is(1, "ruled", 0, way, sides[i][1], sides[i][2]).is(0, "cell", 0, 0, 5).is(3, "erase", time == 0 ? i : 3);
                r.put("draw", way, ats[i], 10, 40).is(0, "ruled", 0, way, sides[i][1], sides[i][2]).is(2, "cell", 0, 0, 5);
                r.is(3, "erase", 3).put("draw", way, ats[i], 10, 50);
            }
            r.is(1, "ruled", 0, way, sides[i][1], sides[i][2]).is(0, "cell", 0, 0, 5);
        }
    }

    private static void oneCellOrAllApart() {
        DUE.says("FIELDS are one CELL, if a SIDE between them is not RULED, by way of others, too.");
        Run apart = grid().row(new int[] {2, 3, 6, 7, 0, 1, 0, 6}, "table", 0);
        Run one = new Run(DUE).box(10, 20, 70, 60).put("draw", 0, 40, 10, 15).put("draw", 1, 30, 20, 25);
        one.put("draw", 1, 50, 55, 60).row(new int[] {2, 3, 1, 7, 0, 1, 0, 1}, "table", 0);
        one.row(new int[] {0, 0, 2, 3, 6, 0, 0}, "cell", 0, 0).is(UNKNOWN, "cell", 0, 1, 0);
        for (int field = 0; field < 6; field++) {
            int row = field / 3;
            int column = field % 3;
            apart.is(field, "at", 0, row, column).row(new int[] {row, column, 1, 1, 1, 0, 0}, "cell", 0, field);
            one.is(0, "at", 0, row, column);
        }
    }

    /** A cell whose first field, by which it is numbered, is at its right end. */
    private static void firstRowAndColumn() {
        DUE.says("A CELL has a first ROW, a first COLUMN, and SPANS so many ROWS, COLUMNS (from the least to the greatest).");
        Run r = new Run(DUE).box(0, 0, 90, 60).put("draw", 0, 30, 0, 60).put("draw", 1, 30, 0, 30);
        r.put("draw", 1, 60, 0, 30).is(3, "table", 0, 2).row(new int[] {0, 1, 2}, "at", 0, 0);
        r.row(new int[] {2, 2, 2}, "at", 0, 1).row(new int[] {0, 0, 2, 3, 4, 1, 0}, "cell", 0, 2);
        r.row(new int[] {0, 1, 1, 1, 1, 0, 0}, "cell", 0, 1);
    }

    /** A cell of two fields, and of two more under them that lie one column to the left. */
    private static void spansBothWays() {
        DUE.says("SPANS so many ROWS, COLUMNS (from the least to the greatest)");
        Run r = new Run(DUE).box(0, 0, 80, 60).put("draw", 1, 20, 0, 60).put("draw", 1, 40, 0, 30).put("draw", 1, 60, 30, 60);
        r.put("draw", 0, 30, 0, 40).put("draw", 0, 30, 60, 80).row(new int[] {0, 1, 2, 2}, "at", 0, 0);
        r.row(new int[] {3, 2, 2, 4}, "at", 0, 1).row(new int[] {0, 1, 2, 3, 4, 1, 0}, "cell", 0, 2);
        Run other = new Run(DUE).box(0, 0, 80, 60).put("draw", 1, 60, 0, 60).put("draw", 1, 20, 0, 30).put("draw", 1, 40, 30, 60);
        other.put("draw", 1, 40, 0, 30).is(7, "told", 2).put("draw", 0, 30, 0, 20).put("draw", 0, 30, 40, 80);
        other.row(new int[] {0, 1, 2, 3}, "at", 0, 0).row(new int[] {1, 1, 4, 5}, "at", 0, 1);
        other.row(new int[] {0, 0, 2, 2, 3, 1, 0}, "cell", 0, 1);
    }

    /** Each outer side of a grid in turn is short at one of its ends, just within reach or just beyond it. */
    private static void open() {
        DUE.says("KIND 2 OPEN: a SIDE of it that is at the edge of the TABLE is not RULED");
        int[][] edges = {{0, 10}, {0, 70}, {1, 10}, {1, 70}};
        int[][] cells = {{0, 1}, {2, 3}, {0, 2}, {1, 3}};
        for (int reach = 0; reach <= 5; reach++) {
            for (int edge = 0; edge < 4; edge++) {
                for (int end = 0; end < 2; end++) {
                    openIs(reach, edges[edge], end, reach, NONE);
                    openIs(reach, edges[edge], end, reach + 1, cells[edge][end]);
                }
            }
        }
    }

    private static void openIs(int reach, int[] edge, int end, int isShort, int openCell) {
        Run r = new Run(DUE).put("set", 2, reach).put("draw", 0, 40, 10, 70).put("draw", 1, 40, 10, 70);
        for (int way = 0; way < 2; way++) {
            for (int at = 10; at <= 70; at += 60) {
                boolean isIt = way == edge[0] && at == edge[1];
                r.put("draw", way, at, isIt && end == 0 ? 10 + isShort : 10, isIt && end == 1 ? 70 - isShort : 70);
            }
        }
        for (int cell = 0; cell < 4; cell++) {
            r.is(cell == openCell ? 2 : 0, "cell", 0, cell, 5);
        }
        r.is(openCell == NONE ? 4 : 3, "table", 0, 7);
    }

    private static void openBeforeBroken() {
        DUE.says("KIND 2 OPEN ..; else 1 BROKEN: it has fewer FIELDS than it SPANS; else 0 WHOLE");
        Run r = new Run(DUE).box(0, 0, 60, 60).put("draw", 0, 30, 30, 60).put("draw", 1, 30, 0, 30);
        r.is(1, "cell", 0, 0, 5).is(0, "cell", 0, 1, 5).is(1, "table", 0, 7);
        r.is(5, "erase", 1).put("draw", 0, 60, 0, 30).is(2, "cell", 0, 0, 5).is(0, "cell", 0, 1, 5);
        r.is(5, "erase", 5).put("draw", 0, 60, 0, 60).is(1, "cell", 0, 0, 5);
    }

    private static void fewerFieldsThanItSpans() {
        DUE.says("else 1 BROKEN: it has fewer FIELDS than it SPANS; else 0 WHOLE");
        Run r = new Run(DUE).box(0, 0, 60, 60).put("draw", 0, 30, 0, 30).put("draw", 1, 30, 0, 5);
        r.row(new int[] {0, 0, 2, 2, 4, 0, 0}, "cell", 0, 0).put("draw", 1, 30, 5, 30);
        r.row(new int[] {0, 0, 1, 1, 1, 0, 0}, "cell", 0, 0).row(new int[] {0, 0, 2, 2, 3, 1, 0}, "cell", 0, 1);
        r.put("draw", 1, 30, 30, 60).row(new int[] {0, 1, 2, 1, 2, 0, 0}, "cell", 0, 1).is(3, "table", 0, 7);
    }

    private static void table() {
        DUE.says("table: ROWS (what = 0) .. WHOLE CELLS (7). UNKNOWN; OUTSIDE.");
        Run r = grid().put("write", 12, 22, 20, 30).put("write", 80, 80, 90, 90).put("write", 60, 50, 62, 52);
        r.row(new int[] {2, 3, 6, 7, 2, 1, 0, 6, OUTSIDE}, "table", 0);
        r.is(UNKNOWN, "table", 1, 0).is(UNKNOWN, "table", -1, 0).is(UNKNOWN, "table", 1, 8).is(UNKNOWN, "table", -1, -1);
        for (int far : Due.FAR) {
            r.is(OUTSIDE, "table", 0, far).is(UNKNOWN, "table", far, 0).is(UNKNOWN, "table", far, far);
        }
    }

    private static void edge() {
        DUE.says("edge: The PLACE of a LINE of a WAY; NONE: there is no such LINE. UNKNOWN; OUTSIDE: the WAY.");
        Run r = grid().row(new int[] {20, 40, 60, NONE}, "edge", 0, 0).row(new int[] {10, 30, 50, 70, NONE}, "edge", 0, 1);
        r.is(NONE, "edge", 0, 0, -1).is(NONE, "edge", 0, 1, -1).is(OUTSIDE, "edge", 0, 2, 0).is(OUTSIDE, "edge", 0, -1, 0);
        r.is(OUTSIDE, "edge", 0, 2, 9).is(OUTSIDE, "edge", 0, -1, -1);
        r.is(UNKNOWN, "edge", 1, 0, 0).is(UNKNOWN, "edge", -1, 0, 0).is(UNKNOWN, "edge", 1, 2, 9);
        for (int far : Due.FAR) {
            r.is(NONE, "edge", 0, 0, far).is(NONE, "edge", 0, 1, far).is(OUTSIDE, "edge", 0, far, 0);
            r.is(OUTSIDE, "edge", 0, far, far).is(UNKNOWN, "edge", far, 0, 0).is(UNKNOWN, "edge", far, far, far);
        }
    }

    private static void ruled() {
        DUE.says("ruled: UNKNOWN: the TABLE, such a SIDE; OUTSIDE: the WAY; in this order: TABLE, WAY, SIDE.");
        Run r = grid();
        r.is(UNKNOWN, "ruled", 1, 2, 9, 9).is(UNKNOWN, "ruled", -1, 0, 0, 0).is(UNKNOWN, "ruled", 1, 0, 0, 0);
        r.is(OUTSIDE, "ruled", 0, 2, 9, 9).is(OUTSIDE, "ruled", 0, -1, -1, -1).is(OUTSIDE, "ruled", 0, 2, 0, 0);
        r.is(UNKNOWN, "ruled", 0, 0, 9, 9).is(UNKNOWN, "ruled", 0, 1, 9, 9);
        for (int far : Due.FAR) {
            r.is(UNKNOWN, "ruled", far, far, far, far).is(OUTSIDE, "ruled", 0, far, far, far);
            for (int way = 0; way < 2; way++) {
                r.is(UNKNOWN, "ruled", 0, way, far, 0).is(UNKNOWN, "ruled", 0, way, 0, far);
                r.is(UNKNOWN, "ruled", 0, way, far, far).is(UNKNOWN, "ruled", far, way, 0, 0);
            }
        }
    }

    private static void at() {
        DUE.says("at: The CELL of a FIELD. UNKNOWN: both.");
        Run r = grid();
        for (int row = -1; row <= 3; row++) {
            for (int column = -1; column <= 4; column++) {
                boolean isField = row >= 0 && row < 2 && column >= 0 && column < 3;
                r.is(isField ? 3 * row + column : UNKNOWN, "at", 0, row, column);
                r.is(UNKNOWN, "at", 1, row, column).is(UNKNOWN, "at", -1, row, column);
            }
        }
        for (int far : Due.FAR) {
            r.is(UNKNOWN, "at", far, 0, 0).is(UNKNOWN, "at", 0, far, 0).is(UNKNOWN, "at", 0, 0, far);
            r.is(UNKNOWN, "at", 0, far, far).is(UNKNOWN, "at", far, far, far);
        }
    }

    private static void cell() {
        DUE.says("cell: its first ROW (what = 0) .. WORDS (6). UNKNOWN: both; OUTSIDE.");
        Run r = grid().put("write", 12, 42, 20, 50).row(new int[] {1, 0, 1, 1, 1, 0, 1, OUTSIDE}, "cell", 0, 3);
        r.row(new int[] {1, 2, 1, 1, 1, 0, 0, OUTSIDE}, "cell", 0, 5).is(UNKNOWN, "cell", 0, 6, 0);
        r.is(UNKNOWN, "cell", 0, -1, 0).is(UNKNOWN, "cell", 1, 0, 0).is(UNKNOWN, "cell", -1, 0, 0);
        r.is(UNKNOWN, "cell", 0, 6, 7).is(UNKNOWN, "cell", 1, 0, 7).is(OUTSIDE, "cell", 0, 0, -1);
        for (int far : Due.FAR) {
            r.is(OUTSIDE, "cell", 0, 5, far).is(UNKNOWN, "cell", 0, far, 0).is(UNKNOWN, "cell", far, 0, 0);
            r.is(UNKNOWN, "cell", 0, far, far).is(UNKNOWN, "cell", far, far, far);
        }
    }
}
