/** Promises 9 and 10: rules and how they cross. */
public final class RulesTest {
    private static final Due DUE = new Due();

    public static void main(String[] args) {
        slop();
        gap();
        waysStayApart();
        byWayOfOthers();
        longestTellsWhere();
        numbering();
        crossing();
        crossingEdges();
        tableOfRule();
        refused();
        DUE.end();
    }

    private static void slop() {
        for (int slop = 0; slop <= 3; slop++) {
            for (int apart = 0; apart <= 4; apart++) {
                RuledTables x = new RuledTables();
                x.set(0, slop);
                x.draw(0, 20, 10, 20);
                x.draw(0, 20 - apart, 10, 20);
                x.draw(1, 20, 10, 20);
                x.draw(1, 20 + apart, 10, 20);
                DUE.is("slop " + slop + ", apart " + apart, x.told(2), apart <= slop ? 2 : 4);
            }
        }
    }

    private static void gap() {
        for (int gap = 0; gap <= 9; gap++) {
            for (int beyond = -3; beyond <= 10; beyond++) {
                RuledTables x = new RuledTables();
                x.set(1, gap);
                x.draw(1, 20, 30 + beyond, 60);
                x.draw(1, 20, 10, 30);
                DUE.is("gap " + gap + ", beyond " + beyond, x.told(2), beyond <= gap ? 1 : 2);
            }
        }
        RuledTables inside = new RuledTables();
        inside.draw(0, 20, 10, 60);
        inside.draw(0, 21, 30, 40);
        DUE.is("one within the other", inside.told(2), 1);
    }

    private static void waysStayApart() {
        RuledTables x = new RuledTables();
        x.draw(0, 20, 10, 30);
        x.draw(1, 20, 10, 30);
        DUE.is("ways", x.told(2), 2);
        DUE.is("across first", x.rule(0, 0), 0);
        DUE.is("down next", x.rule(1, 0), 1);
    }

    private static void byWayOfOthers() {
        RuledTables x = new RuledTables();
        x.draw(0, 20, 10, 20);
        x.draw(0, 23, 40, 50);
        x.draw(0, 60, 10, 20);
        x.draw(0, 22, 29, 38);
        DUE.is("apart as yet", x.told(2), 3);
        x.draw(0, 21, 18, 30);
        DUE.is("one now, and another", x.told(2), 2);
        int[] told = {0, 21, 10, 50, 4, 0, 0, RuledTables.NONE};
        for (int what = 0; what < told.length; what++) {
            DUE.is("rule 0, " + what, x.rule(0, what), told[what]);
        }
        DUE.is("rule 1: first piece", x.rule(1, 5), 2);
        DUE.is("rule 1: pieces", x.rule(1, 4), 1);
        int[] rules = {0, 0, 1, 0, 0};
        for (int p = 0; p < rules.length; p++) {
            DUE.is("rule of piece " + p, x.piece(p, 4), rules[p]);
        }
    }

    private static void longestTellsWhere() {
        RuledTables x = new RuledTables();
        x.draw(1, 31, 10, 20);
        x.draw(1, 30, 20, 30);
        DUE.is("first of as long", x.rule(0, 1), 31);
        x.draw(1, 32, 5, 16);
        DUE.is("longer by one", x.rule(0, 1), 32);
        DUE.is("from", x.rule(0, 2), 5);
        DUE.is("to", x.rule(0, 3), 30);
        DUE.is("pieces", x.rule(0, 4), 3);
        x.draw(1, 33, 15, 30);
        DUE.is("longer yet", x.rule(0, 1), 33);
        x.erase(3);
        x.erase(0);
        DUE.is("30 and 32 are two now", x.told(2), 2);
        DUE.is("first piece counts anew", x.rule(0, 5), 0);
        DUE.is("that at 32", x.rule(1, 5), 1);
    }

    private static void numbering() {
        RuledTables x = new RuledTables();
        x.set(0, 0);
        x.set(1, 0);
        x.draw(1, 10, 50, 60);
        x.draw(0, 40, 30, 35);
        x.draw(0, 40, 10, 15);
        x.draw(1, 10, 5, 9);
        x.draw(0, 20, 60, 70);
        int[] first = {4, 2, 1, 3, 0};
        for (int r = 0; r < first.length; r++) {
            DUE.is("first piece of rule " + r, x.rule(r, 5), first[r]);
        }
        numberingByToAndFirst();
    }

    /** Two rules lie at 50 from 10 to 90: one goes round above it, the other one below. */
    private static void numberingByToAndFirst() {
        RuledTables x = new RuledTables();
        x.set(0, 3);
        x.set(1, 0);
        x.draw(0, 52, 60, 64);
        x.draw(0, 50, 20, 40);
        x.draw(0, 48, 36, 40);
        x.draw(0, 50, 60, 80);
        for (int at = 46; at <= 54; at += 8) {
            for (int from = 10; from <= 70; from += 15) {
                x.draw(0, at, from, from + 15);
            }
            x.draw(0, at, 85, 90);
        }
        DUE.is("two rules", x.told(2), 2);
        for (int r = 0; r < 2; r++) {
            DUE.is("at", x.rule(r, 1), 50);
            DUE.is("from", x.rule(r, 2), 10);
            DUE.is("to", x.rule(r, 3), 90);
            DUE.is("pieces", x.rule(r, 4), 8);
            DUE.is("by first piece", x.rule(r, 5), r);
        }
        x.erase(9);
        DUE.is("lesser to goes first", x.rule(0, 5), 1);
        DUE.is("lesser to", x.rule(0, 3), 85);
        DUE.is("greater to", x.rule(1, 3), 90);
    }

    private static void crossing() {
        RuledTables x = new RuledTables();
        x.set(2, 0);
        x.draw(0, 20, 10, 50);
        x.draw(0, 40, 10, 50);
        x.draw(1, 10, 20, 40);
        x.draw(1, 30, 0, 20);
        x.draw(1, 60, 0, 99);
        int[][] crosses = {{0, 0, 1, 1, 0}, {0, 0, 1, 0, 0}, {1, 1, 0, 0, 0}, {1, 0, 0, 0, 0}, {0, 0, 0, 0, 0}};
        for (int r = 0; r < 5; r++) {
            int sum = 0;
            for (int o = 0; o < 5; o++) {
                DUE.is("cross " + r + " " + o, x.cross(r, o), crosses[r][o]);
                sum += crosses[r][o];
            }
            DUE.is("crossings of " + r, x.rule(r, 6), sum);
        }
    }

    private static void crossingEdges() {
        for (int reach = 0; reach <= 5; reach++) {
            for (int off = 0; off <= 6; off++) {
                RuledTables x = new RuledTables();
                x.set(2, reach);
                x.draw(0, 50, 40, 60);
                x.draw(1, 40 - off, 10, 50);
                x.draw(1, 60 + off, 50, 90);
                x.draw(1, 50, 50 + off, 90);
                x.draw(1, 54, 10, 50 - off);
                int due = off <= reach ? 1 : 0;
                for (int r = 1; r <= 4; r++) {
                    DUE.is("reach " + reach + ", off " + off, x.cross(0, r), due);
                    DUE.is("and the other way about", x.cross(r, 0), due);
                }
            }
        }
    }

    private static void tableOfRule() {
        RuledTables x = new RuledTables();
        x.draw(0, 50, 50, 70);
        x.draw(0, 70, 50, 70);
        x.draw(1, 50, 50, 70);
        x.draw(0, 90, 0, 20);
        x.draw(1, 10, 80, 99);
        DUE.is("no table as yet", x.told(3), 0);
        DUE.is("three sides are none", x.rule(0, 7), RuledTables.NONE);
        x.draw(1, 70, 50, 70);
        DUE.is("one now", x.told(3), 1);
        int[] tables = {0, 0, -6, -6, 0, 0};
        for (int r = 0; r < tables.length; r++) {
            DUE.is("table of rule " + r, x.rule(r, 7), tables[r]);
        }
        onePlaceIsNotEnough();
    }

    /** A rule of one way at 20, two rules of the other way, then one more at 20, and one at another place. */
    private static void onePlaceIsNotEnough() {
        for (int way = 0; way < 2; way++) {
            RuledTables x = new RuledTables();
            x.draw(way, 20, 10, 50);
            x.draw(1 - way, 10, 20, 90);
            x.draw(1 - way, 50, 20, 90);
            x.draw(1 - way, 70, 20, 90);
            DUE.is("one rule of way " + way, x.told(3), 0);
            x.draw(way, 20, 60, 80);
            x.draw(way, 40, 60, 80);
            DUE.is("two places, but not together", x.told(3), 0);
            x.set(1, 9);
            x.set(2, 5);
            DUE.is("two rules lie at 20", x.told(2), 6);
            DUE.is("nor here", x.told(3), 0);
            x.draw(way, 60, 40, 80);
            DUE.is("together now", x.told(3), 1);
            DUE.is("all but one", x.table(0, 3), 7);
        }
        twoRulesAtOnePlace();
    }

    private static void twoRulesAtOnePlace() {
        RuledTables x = new RuledTables();
        x.set(2, 5);
        x.draw(0, 20, 10, 48);
        x.draw(0, 20, 52, 90);
        x.draw(1, 10, 20, 60);
        x.draw(1, 50, 20, 60);
        DUE.is("both cross that between them", x.rule(3, 6), 2);
        DUE.is("two rules across lie at one place", x.told(3), 0);
        x.draw(0, 40, 10, 50);
        DUE.is("at two", x.told(3), 1);
    }

    private static void refused() {
        RuledTables x = new RuledTables();
        x.draw(0, 20, 10, 20);
        x.draw(1, 15, 10, 20);
        DUE.is("rule 2", x.rule(2, 0), RuledTables.UNKNOWN);
        DUE.is("rule what 8", x.rule(0, 8), RuledTables.OUTSIDE);
        DUE.is("cross 2 0", x.cross(2, 0), RuledTables.UNKNOWN);
        DUE.is("cross 0 2", x.cross(0, 2), RuledTables.UNKNOWN);
        for (int far : Due.FAR) {
            DUE.is("rule far", x.rule(far, far), RuledTables.UNKNOWN);
            DUE.is("rule what far", x.rule(0, far), RuledTables.OUTSIDE);
            DUE.is("cross far", x.cross(far, 0), RuledTables.UNKNOWN);
            DUE.is("cross other far", x.cross(0, far), RuledTables.UNKNOWN);
        }
    }
}
