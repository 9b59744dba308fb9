/** The sentences about rules that name a bound: Terms 2, promises 9 and 10. */
public final class RulesBoundsTest {
    private static final Due DUE = new Due();
    private static final int UNKNOWN = RuledTables.UNKNOWN, OUTSIDE = RuledTables.OUTSIDE, NONE = RuledTables.NONE;

    public static void main(String[] args) {
        ofOneWay();
        differByNoMoreThanSlop();
        noMoreThanGapBeyond();
        bothMustHold();
        byWayOfOthers();
        asManyRulesAsPieces();
        longestPiece();
        fromTheLeastToTheGreatest();
        numberedByWays();
        numberedByAtThenFrom();
        numberedByFromThenTo();
        numberedByToThenFirstPiece();
        crossWithinReach();
        crossAtThePagesEnds();
        crossTheOtherWayAbout();
        crossByTheRulesNumbers();
        rule();
        cross();
        DUE.end();
    }

    private static void ofOneWay() {
        DUE.says("Two PIECES of one WAY are NEAR");
        new Run(DUE).put("draw", 0, 20, 10, 30).put("draw", 1, 20, 10, 30).is(2, "told", 2);
    }

    private static void differByNoMoreThanSlop() {
        DUE.says("if their ATS differ by no more than SLOP");
        for (int slop = 0; slop <= 3; slop++) {
            for (int way = 0; way < 2; way++) {
                for (int at : new int[] {0, 40, 99 - slop - 1}) {
                    nearIs(slop, 2, 1, new int[] {way, at, 10, 30}, new int[] {way, at + slop, 20, 40});
                    nearIs(slop, 2, 2, new int[] {way, at, 10, 30}, new int[] {way, at + slop + 1, 20, 40});
                }
            }
        }
    }

    /** Two pieces, drawn in one order and in the other one, are so many rules. */
    private static void nearIs(int slop, int gap, int rules, int[] one, int[] other) {
        Run there = new Run(DUE).put("set", 0, slop).put("set", 1, gap);
        there.put("draw", one).put("draw", other).is(rules, "told", 2);
        Run back = new Run(DUE).put("set", 0, slop).put("set", 1, gap);
        back.put("draw", other).put("draw", one).is(rules, "told", 2);
    }

    private static void noMoreThanGapBeyond() {
        DUE.says("the greater FROM is no more than GAP beyond the lesser TO");
        for (int gap = 0; gap <= 9; gap++) {
            for (int way = 0; way < 2; way++) {
                nearIs(1, gap, 1, new int[] {way, 50, 0, 30}, new int[] {way, 50, 30 + gap, 99});
                nearIs(1, gap, 2, new int[] {way, 50, 0, 30}, new int[] {way, 50, 30 + gap + 1, 99});
                nearIs(1, gap, 1, new int[] {way, 50, 0, 30}, new int[] {way, 50, 29, 99});
                nearIs(1, gap, 1, new int[] {way, 50, 0, 99}, new int[] {way, 50, 98, 99});
                nearIs(1, gap, 1, new int[] {way, 50, 0, 99}, new int[] {way, 50, 40, 41});
                nearIs(1, gap, 1, new int[] {way, 50, 0, 99}, new int[] {way, 50, 0, 99});
            }
        }
    }

    private static void bothMustHold() {
        DUE.says("NEAR, if their ATS differ by no more than SLOP, and the greater FROM is no more than GAP beyond");
        for (int way = 0; way < 2; way++) {
            nearIs(3, 9, 1, new int[] {way, 50, 10, 30}, new int[] {way, 53, 39, 60});
            nearIs(3, 9, 2, new int[] {way, 50, 10, 30}, new int[] {way, 54, 39, 60});
            nearIs(3, 9, 2, new int[] {way, 50, 10, 30}, new int[] {way, 53, 40, 60});
        }
    }

    /** As many pieces as there can be, each near the next one alone; then without one of them. */
    private static void byWayOfOthers() {
        DUE.says("A RULE: all PIECES that are NEAR one another, by way of others, too.");
        for (int gone = 0; gone < 24; gone++) {
            Run r = new Run(DUE);
            for (int i = 0; i < 24; i++) {
                int at = i * 7 % 24;
                r.put("draw", 1, 10 + at, 10, 20);
            }
            r.is(1, "told", 2).row(new int[] {1, 10, 10, 20, 24, 0, 0, NONE}, "rule", 0);
            int at = gone * 7 % 24;
            r.is(23, "erase", gone);
            r.is(at == 0 || at == 23 ? 1 : 2, "told", 2).is(at == 0 ? 23 : at, "rule", 0, 4);
        }
    }

    private static void asManyRulesAsPieces() {
        DUE.says("RULES are numbered by WAYS, then AT");
        Run r = new Run(DUE);
        for (int i = 23; i >= 0; i--) {
            r.put("draw", 0, 4 * i, 10, 20);
        }
        r.is(24, "told", 2).is(UNKNOWN, "rule", 24, 0);
        for (int i = 0; i < 24; i++) {
            r.row(new int[] {0, 4 * i, 10, 20, 1, 23 - i, 0, NONE}, "rule", i).is(i, "piece", 23 - i, 4);
        }
    }

    private static void longestPiece() {
        DUE.says("It lies AT where its longest PIECE does (the first of as long)");
        for (int way = 0; way < 2; way++) {
            Run r = new Run(DUE).put("set", 0, 3);
            r.put("draw", way, 51, 40, 50).put("draw", way, 50, 30, 40).put("draw", way, 52, 50, 60);
            r.is(1, "told", 2).is(51, "rule", 0, 1).is(2, "erase", 0).put("draw", way, 51, 40, 50);
            r.is(50, "rule", 0, 1).put("draw", way, 53, 50, 61).is(53, "rule", 0, 1);
            r.put("draw", way, 49, 29, 40).is(53, "rule", 0, 1).is(4, "erase", 3).is(49, "rule", 0, 1);
            r.put("draw", way, 51, 40, 52).is(51, "rule", 0, 1).put("draw", way, 52, 47, 60).is(52, "rule", 0, 1);
        }
    }

    private static void fromTheLeastToTheGreatest() {
        DUE.says("FROM the least TO the greatest");
        Run r = new Run(DUE).put("draw", 0, 50, 20, 80);
        r.put("draw", 0, 51, 19, 30).is(19, "rule", 0, 2).is(80, "rule", 0, 3);
        r.put("draw", 0, 49, 40, 81).is(19, "rule", 0, 2).is(81, "rule", 0, 3);
        r.put("draw", 0, 50, 0, 17).put("draw", 0, 50, 83, 99).is(0, "rule", 0, 2).is(99, "rule", 0, 3);
        r.is(50, "rule", 0, 1).is(5, "rule", 0, 4);
    }

    private static void numberedByWays() {
        DUE.says("RULES are numbered by WAYS");
        Run r = new Run(DUE).put("draw", 1, 0, 0, 10).put("draw", 0, 99, 80, 99);
        r.is(0, "rule", 0, 0).is(1, "rule", 0, 5).is(1, "rule", 1, 0).is(0, "rule", 1, 5);
    }

    private static void numberedByAtThenFrom() {
        DUE.says("then AT, FROM");
        for (int way = 0; way < 2; way++) {
            Run r = new Run(DUE);
            r.put("draw", way, 50, 60, 70).put("draw", way, 50, 10, 20).put("draw", way, 48, 80, 90);
            r.is(3, "told", 2).is(2, "rule", 0, 5).is(1, "rule", 1, 5).is(0, "rule", 2, 5);
        }
    }

    /** A rule at 50 goes round another one at 50 that is drawn first and ends before it. */
    private static void numberedByFromThenTo() {
        DUE.says("then AT, FROM, TO");
        Run r = new Run(DUE).put("set", 0, 3).put("set", 1, 0);
        r.put("draw", 0, 50, 60, 70).put("draw", 0, 50, 10, 40).put("draw", 0, 53, 38, 42);
        r.put("draw", 0, 56, 40, 65).put("draw", 0, 56, 65, 90);
        r.is(2, "told", 2).row(new int[] {0, 50, 10, 90, 4, 1}, "rule", 0);
        r.row(new int[] {0, 50, 60, 70, 1, 0}, "rule", 1);
        r.is(1, "piece", 0, 4).is(0, "piece", 1, 4).is(0, "piece", 4, 4);
    }

    /** Two rules lie at 50 from 10: one goes round above, the other one below; that drawn first ends last, or not. */
    private static void numberedByToThenFirstPiece() {
        DUE.says("then AT, FROM, TO, then by their first PIECES");
        for (int end = 89; end <= 91; end++) {
            Run r = new Run(DUE).put("set", 0, 3).put("set", 1, 0);
            r.put("draw", 0, 52, 60, 64).put("draw", 0, 50, 60, 85);
            r.put("draw", 0, 50, 20, 45).put("draw", 0, 48, 36, 40);
            for (int at = 54; at >= 46; at -= 8) {
                for (int from = 10; from <= 50; from += 20) {
                    r.put("draw", 0, at, from, from + 20);
                }
                r.put("draw", 0, at, 70, at == 54 ? end : 90);
            }
            int first = end > 90 ? 2 : 0;
            r.is(2, "told", 2).row(new int[] {0, 50, 10, Math.min(end, 90), 6, first}, "rule", 0);
            r.row(new int[] {0, 50, 10, Math.max(end, 90), 6, 2 - first}, "rule", 1);
        }
    }

    private static void crossWithinReach() {
        DUE.says("CROSS, if the one lies AT a PLACE that is no less than FROM, less REACH, and no greater than TO, and REACH");
        for (int reach = 0; reach <= 5; reach++) {
            for (int off = reach; off <= reach + 1; off++) {
                int due = off == reach ? 1 : 0;
                crossIs(due, reach, new int[] {0, 50, 30, 70}, new int[] {1, 30 - off, 20, 80});
                crossIs(due, reach, new int[] {0, 50, 30, 70}, new int[] {1, 70 + off, 20, 80});
                crossIs(due, reach, new int[] {0, 30 - off, 20, 80}, new int[] {1, 50, 30, 70});
                crossIs(due, reach, new int[] {0, 70 + off, 20, 80}, new int[] {1, 50, 30, 70});
                crossIs(due, reach, new int[] {0, 50, 30, 70}, new int[] {1, 30 - off, 50 + reach, 80});
                crossIs(due, reach, new int[] {0, 50, 30, 70}, new int[] {1, 70 + reach, 20, 50 - off});
            }
            crossIs(1, reach, new int[] {0, 50, 30, 70}, new int[] {1, 30, 50, 70});
            crossIs(1, reach, new int[] {0, 50, 30, 70}, new int[] {1, 70, 30, 50});
        }
    }

    private static void crossIs(int due, int reach, int[] across, int[] down) {
        Run r = new Run(DUE).put("set", 2, reach).put("draw", down).put("draw", across);
        r.is(due, "cross", 0, 1).is(due, "cross", 1, 0).is(due, "rule", 0, 6).is(due, "rule", 1, 6);
    }

    private static void crossAtThePagesEnds() {
        DUE.says("no less than FROM, less REACH, and no greater than TO, and REACH");
        for (int reach = 0; reach <= 5; reach++) {
            crossIs(1, reach, new int[] {0, 0, reach, 99}, new int[] {1, 0, reach, 99});
            crossIs(0, reach, new int[] {0, 0, reach + 1, 99}, new int[] {1, 0, 0, 99});
            crossIs(1, reach, new int[] {0, 99, 0, 99 - reach}, new int[] {1, 99, 0, 99 - reach});
            crossIs(0, reach, new int[] {0, 99, 0, 99}, new int[] {1, 99, 0, 98 - reach});
        }
        crossIs(1, 5, new int[] {0, 0, 1, 99}, new int[] {1, 0, 1, 99});
        crossIs(1, 5, new int[] {0, 99, 0, 98}, new int[] {1, 99, 0, 98});
    }

    private static void crossTheOtherWayAbout() {
        DUE.says("and likewise the other way about");
        crossIs(0, 1, new int[] {0, 50, 30, 70}, new int[] {1, 50, 52, 90});
        crossIs(0, 1, new int[] {0, 50, 30, 70}, new int[] {1, 50, 10, 48});
        crossIs(0, 1, new int[] {0, 50, 52, 90}, new int[] {1, 50, 30, 70});
        crossIs(0, 1, new int[] {0, 50, 10, 48}, new int[] {1, 50, 30, 70});
        crossIs(1, 1, new int[] {0, 50, 51, 90}, new int[] {1, 50, 51, 90});
    }

    /** A short piece lies nearer, but its rule lies where the long one does. */
    private static void crossByTheRulesNumbers() {
        DUE.says("A RULE ACROSS and one DOWN CROSS");
        Run r = new Run(DUE).put("set", 2, 0).put("draw", 0, 50, 10, 80).put("draw", 0, 51, 40, 45);
        r.put("draw", 1, 42, 51, 90).is(0, "cross", 0, 1).is(4, "draw", 1, 43, 50, 52).is(1, "cross", 0, 1);
        r.is(42, "rule", 1, 1);
    }

    private static void rule() {
        DUE.says("rule: .. how many RULES it CROSSES (6), its TABLE (7; NONE). UNKNOWN; OUTSIDE.");
        Run r = new Run(DUE);
        r.is(UNKNOWN, "rule", 0, 0).is(UNKNOWN, "rule", 0, 8).put("draw", 1, 40, 20, 60).put("draw", 0, 30, 10, 50);
        r.row(new int[] {0, 30, 10, 50, 1, 1, 1, NONE, OUTSIDE}, "rule", 0);
        r.row(new int[] {1, 40, 20, 60, 1, 0, 1, NONE, OUTSIDE}, "rule", 1);
        r.put("draw", 0, 50, 10, 50).is(2, "rule", 2, 6).is(NONE, "rule", 2, 7).put("draw", 1, 20, 20, 60);
        r.row(new int[] {1, 20, 20, 60, 1, 3, 2, 0, OUTSIDE}, "rule", 2);
        r.is(UNKNOWN, "rule", 4, 0).is(UNKNOWN, "rule", -1, 0).is(UNKNOWN, "rule", 4, 8).is(UNKNOWN, "rule", -1, -1);
        for (int far : Due.FAR) {
            r.is(OUTSIDE, "rule", 3, far).is(UNKNOWN, "rule", far, 0).is(UNKNOWN, "rule", far, far);
        }
        r.put("draw", 0, 90, 0, 5).is(0, "rule", 2, 6).is(NONE, "rule", 2, 7);
    }

    private static void cross() {
        DUE.says("cross: Whether two RULES CROSS (1, 0). UNKNOWN: both.");
        Run r = new Run(DUE);
        r.is(UNKNOWN, "cross", 0, 0).put("draw", 0, 30, 10, 50).put("draw", 0, 40, 10, 50).put("draw", 1, 20, 10, 50);
        int[][] due = {{0, 0, 1, UNKNOWN}, {0, 0, 1, UNKNOWN}, {1, 1, 0, UNKNOWN}};
        for (int rule = 0; rule < 3; rule++) {
            r.row(due[rule], "cross", rule);
            r.is(UNKNOWN, "cross", -1, rule).is(UNKNOWN, "cross", rule, -1);
        }
        r.is(UNKNOWN, "cross", 3, 0).is(UNKNOWN, "cross", 3, 3);
        for (int far : Due.FAR) {
            r.is(UNKNOWN, "cross", far, 0).is(UNKNOWN, "cross", 2, far).is(UNKNOWN, "cross", far, far);
        }
    }
}
