import java.lang.reflect.InvocationTargetException;
import java.util.Arrays;

/** One object and its calls, which are never more than the 512 of which the document tells. */
final class Run {
    private static final int MOST_CALLS = 512;

    private final RuledTables x = new RuledTables();
    private final Due due;
    private int calls;

    Run(Due due) {
        this.due = due;
    }

    int ask(String call, int... numbers) {
        calls++;
        if (calls > MOST_CALLS) {
            throw new IllegalStateException("a run of more than 512 calls");
        }
        Class<?>[] types = new Class<?>[numbers.length];
        Arrays.fill(types, int.class);
        Object[] given = Arrays.stream(numbers).boxed().toArray();
        try {
            return (Integer) RuledTables.class.getMethod(call, types).invoke(x, given);
        } catch (InvocationTargetException e) {
            throw new AssertionError(call + Arrays.toString(numbers) + " throws", e.getCause());
        } catch (ReflectiveOperationException e) {
            throw new IllegalArgumentException("there is no call " + call + Arrays.toString(numbers), e);
        }
    }

    Run is(int want, String call, int... numbers) {
        due.is(call + Arrays.toString(numbers), ask(call, numbers), want);
        return this;
    }

    /** The call with 0, 1, 2 .. as its last number, behind the given ones. */
    Run row(int[] wants, String call, int... before) {
        int[] numbers = Arrays.copyOf(before, before.length + 1);
        for (int i = 0; i < wants.length; i++) {
            numbers[before.length] = i;
            is(wants[i], call, numbers.clone());
        }
        return this;
    }

    /** A call that must be taken. */
    Run put(String call, int... numbers) {
        due.holds(call + Arrays.toString(numbers) + " is taken", ask(call, numbers) >= 0);
        return this;
    }

    Run box(int left, int top, int right, int bottom) {
        put("draw", 0, top, left, right);
        put("draw", 0, bottom, left, right);
        put("draw", 1, left, top, bottom);
        return put("draw", 1, right, top, bottom);
    }

    /** A piece whose way is turned with those of all others, if way is 1. */
    Run turned(int way, int ofWay, int at, int from, int to) {
        return put("draw", way == 0 ? ofWay : 1 - ofWay, at, from, to);
    }

    int calls() {
        return calls;
    }

    /** All that can be asked of the page as it is. */
    String state() {
        StringBuilder all = new StringBuilder();
        told(all, 8, "told");
        for (int piece = 0; piece < ask("told", 0); piece++) {
            told(all, 5, "piece", piece);
        }
        for (int word = 0; word < ask("told", 1); word++) {
            told(all, 6, "word", word);
        }
        for (int rule = 0; rule < ask("told", 2); rule++) {
            told(all, 8, "rule", rule);
        }
        for (int table = 0; table < ask("told", 3); table++) {
            tableState(all, table);
        }
        return all.toString();
    }

    private void tableState(StringBuilder all, int table) {
        told(all, 8, "table", table);
        int rows = ask("table", table, 0);
        int columns = ask("table", table, 1);
        told(all, rows + 2, "edge", table, 0);
        told(all, columns + 2, "edge", table, 1);
        for (int row = 0; row < rows; row++) {
            told(all, columns, "at", table, row);
        }
        for (int cell = 0; cell < ask("table", table, 2); cell++) {
            told(all, 7, "cell", table, cell);
        }
        for (int k = 0; k < ask("table", table, 6); k++) {
            told(all, 3, "missed", table, k);
        }
    }

    private void told(StringBuilder all, int count, String call, int... before) {
        all.append(call).append(Arrays.toString(before));
        int[] numbers = Arrays.copyOf(before, before.length + 1);
        for (int i = 0; i < count; i++) {
            numbers[before.length] = i;
            all.append(' ').append(ask(call, numbers));
        }
        all.append('\n');
    }
}
