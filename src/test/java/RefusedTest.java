import java.util.function.Supplier;

/** Refused calls: the first answer that fits, in the order of Terms, and nothing is changed. */
public final class RefusedTest {
    private static final Due DUE = new Due();
    private static final int UNKNOWN = RuledTables.UNKNOWN, OUTSIDE = RuledTables.OUTSIDE, STATE = RuledTables.STATE;
    private static final int FULL = RuledTables.FULL, NO = RuledTables.NO, NONE = RuledTables.NONE;

    public static void main(String[] args) {
        onAnyPage();
        onAFullPage();
        onAPageFullOfWords();
        farNumbersInAllPlaces();
        askingChangesNothing();
        DUE.end();
    }

    /** A page with a table of two rows and two columns, where one line is missed; only image 0 is kept. */
    private static Run small() {
        Run r = new Run(DUE).box(10, 10, 50, 50).put("write", 12, 12, 20, 20).put("image", 0);
        r.put("set", 0, 2).put("set", 1, 3).put("set", 2, 2);
        r.put("draw", 1, 30, 10, 50).put("draw", 0, 30, 31, 49);
        return r.put("write", 12, 32, 20, 40).put("write", 70, 70, 80, 80);
    }

    /** The same with as many pieces as there can be. */
    private static Run full() {
        Run r = small();
        for (int i = 6; i < 24; i++) {
            r.put("draw", 1, 50, 20, 40);
        }
        return r;
    }

    private static Run fullOfWords() {
        Run r = small();
        for (int i = 3; i < 20; i++) {
            r.put("write", 60, 60, 61, 61);
        }
        return r;
    }

    /** The call answers as due; the page, the image that is kept and the one that is not are as without it. */
    private static void refused(Supplier<Run> page, int want, String call, int... numbers) {
        Run with = page.get().is(want, call, numbers);
        Run without = page.get();
        DUE.holds(call + " changes nothing on the page", with.state().equals(without.state()));
        Run kept = page.get().is(want, call, numbers).is(STATE, "restore", 1).is(1, "restore", 0);
        DUE.holds(call + " changes no image", kept.state().equals(page.get().put("restore", 0).state()));
    }

    private static void onAnyPage() {
        DUE.says("Calls that are refused answer, the first of these that fits: UNKNOWN .., OUTSIDE .. They change nothing.");
        Supplier<Run> page = RefusedTest::small;
        refused(page, OUTSIDE, "set", 3, 0);
        refused(page, OUTSIDE, "set", 0, 4);
        refused(page, OUTSIDE, "draw", 2, 20, 10, 50);
        refused(page, OUTSIDE, "draw", 0, 20, 50, 50);
        refused(page, UNKNOWN, "erase", 6);
        refused(page, UNKNOWN, "piece", 6, 5);
        refused(page, OUTSIDE, "piece", 5, 5);
        refused(page, OUTSIDE, "write", 20, 20, 20, 30);
        refused(page, OUTSIDE, "write", 20, 30, 21, 30);
        refused(page, UNKNOWN, "strike", 3);
        refused(page, UNKNOWN, "word", 3, 6);
        refused(page, OUTSIDE, "word", 2, 6);
        refused(page, UNKNOWN, "rule", 6, 8);
        refused(page, OUTSIDE, "rule", 5, 8);
        refused(page, UNKNOWN, "cross", 6, 0);
        refused(page, UNKNOWN, "cross", 0, 6);
        refused(page, UNKNOWN, "table", 1, 8);
        refused(page, OUTSIDE, "table", 0, 8);
        refused(page, UNKNOWN, "edge", 1, 2, 9);
        refused(page, OUTSIDE, "edge", 0, 2, 9);
        refused(page, NONE, "edge", 0, 1, 9);
        refused(page, UNKNOWN, "ruled", 1, 2, 9, 9);
        refused(page, OUTSIDE, "ruled", 0, 2, 9, 9);
        refused(page, UNKNOWN, "ruled", 0, 1, 9, 9);
        refused(page, UNKNOWN, "at", 1, 0, 0);
        refused(page, UNKNOWN, "at", 0, 2, 0);
        refused(page, UNKNOWN, "cell", 1, 0, 7);
        refused(page, UNKNOWN, "cell", 0, 3, 7);
        refused(page, OUTSIDE, "cell", 0, 2, 7);
        refused(page, UNKNOWN, "read", 1, 0, 9);
        refused(page, UNKNOWN, "read", 0, 3, 9);
        refused(page, NONE, "read", 0, 0, 9);
        refused(page, UNKNOWN, "missed", 1, 9, 3);
        refused(page, OUTSIDE, "missed", 0, 9, 3);
        refused(page, NONE, "missed", 0, 9, 2);
        refused(page, UNKNOWN, "mend", 1);
        refused(page, UNKNOWN, "heading", 1, 0, 9);
        refused(page, UNKNOWN, "heading", 0, 2, 9);
        refused(page, NONE, "heading", 0, 1, 9);
        refused(page, OUTSIDE, "image", 2);
        refused(page, OUTSIDE, "restore", 2);
        refused(page, STATE, "restore", 1);
        refused(page, OUTSIDE, "told", 8);
        refused(() -> small().put("strike", 1), NO, "mend", 0);
    }

    private static void onAFullPage() {
        DUE.says("the first of these that fits: UNKNOWN .., OUTSIDE .., NO .., STATE .., FULL -4. They change nothing.");
        Supplier<Run> page = RefusedTest::full;
        refused(page, OUTSIDE, "draw", 0, 20, 50, 50);
        refused(page, OUTSIDE, "draw", 2, 20, 10, 50);
        refused(page, FULL, "draw", 0, 20, 10, 50);
        refused(page, UNKNOWN, "mend", 1);
        refused(page, FULL, "mend", 0);
        refused(page, UNKNOWN, "erase", 24);
        refused(() -> full().put("strike", 1), NO, "mend", 0);
        full().is(23, "erase", 23).is(24, "mend", 0);
    }

    private static void onAPageFullOfWords() {
        DUE.says("the first of these that fits: .. OUTSIDE .., FULL -4. They change nothing.");
        Supplier<Run> page = RefusedTest::fullOfWords;
        refused(page, OUTSIDE, "write", 20, 20, 20, 30);
        refused(page, OUTSIDE, "write", 20, 20, 30, 100);
        refused(page, FULL, "write", 20, 20, 30, 30);
        refused(page, UNKNOWN, "strike", 20);
    }

    /** Every call with far numbers in some of its places and 0 in the others: it is refused, or there is none. */
    private static void farNumbersInAllPlaces() {
        DUE.says("UNKNOWN -1 (there is no such ..), OUTSIDE -2 (another number is not as told)");
        Object[][] calls = {{"set", 2}, {"draw", 4}, {"erase", 1}, {"piece", 2}, {"write", 4}, {"strike", 1},
            {"word", 2}, {"rule", 2}, {"cross", 2}, {"table", 2}, {"edge", 3}, {"ruled", 4}, {"at", 3}, {"cell", 3},
            {"read", 3}, {"missed", 3}, {"mend", 1}, {"heading", 3}, {"image", 1}, {"restore", 1}, {"told", 1}};
        String before = small().state();
        for (Object[] call : calls) {
            int count = (Integer) call[1];
            for (int far : Due.FAR) {
                Run r = small();
                for (int places = 1; places < 1 << count; places++) {
                    int[] numbers = new int[count];
                    for (int i = 0; i < count; i++) {
                        numbers[i] = (places >> i & 1) == 1 ? far : 0;
                    }
                    DUE.holds(call[0] + java.util.Arrays.toString(numbers), r.ask((String) call[0], numbers) < 0);
                }
                DUE.holds(call[0] + " changes nothing", r.state().equals(before));
            }
        }
    }

    private static void askingChangesNothing() {
        DUE.says("Nothing is promised beyond the answers and state changes described above");
        Run r = small();
        String before = r.state();
        DUE.holds("asked again", r.state().equals(before));
        Run kept = small().put("image", 1);
        DUE.holds("keeping an image changes nothing", kept.state().equals(before));
        kept.put("restore", 1);
        DUE.holds("nor does restoring it at once", kept.state().equals(before));
    }
}
