import java.lang.reflect.Array;
import java.lang.reflect.Constructor;
import java.lang.reflect.Field;
import java.lang.reflect.InvocationTargetException;
import java.lang.reflect.Method;
import java.lang.reflect.Modifier;
import java.util.Arrays;

/** The machine throws in no call, not even if a table had less room than the page has lines for. */
public final class GuardTest {
    private static final Due DUE = new Due();
    private static final int[] NUMBERS = {Integer.MIN_VALUE, -1, 0, 1, 2, 6, 11, 21, 22, 121, Integer.MAX_VALUE};

    public static void main(String[] args) throws ReflectiveOperationException {
        for (int room = -1; room <= 24; room++) {
            for (int across = 2; across <= 22; across++) {
                RuledTables x = ruled(across, 24 - across);
                giveRoom(x, room);
                askAll(x, "room for " + room + " rules, " + across + " of 24 across: ");
            }
        }
        DUE.end();
    }

    /** So many rules of each way, each as long as the page, and words on it. */
    private static RuledTables ruled(int across, int down) {
        RuledTables x = new RuledTables();
        for (int i = 0; i < across; i++) {
            x.draw(0, 4 * i, 0, 99);
        }
        for (int i = 0; i < down; i++) {
            x.draw(1, 4 * i, 0, 99);
        }
        for (int i = 0; i < 20; i++) {
            x.write(4 * i, 4 * i, 4 * i + 3, 4 * i + 3);
        }
        return x;
    }

    private static void giveRoom(RuledTables x, int room) throws ReflectiveOperationException {
        Field finding = RuledTables.class.getDeclaredField("finding");
        finding.setAccessible(true);
        Field tables = finding.getType().getDeclaredField("tables");
        tables.setAccessible(true);
        Constructor<?> table = tables.getType().getComponentType().getDeclaredConstructor(int.class);
        table.setAccessible(true);
        Array.set(tables.get(finding.get(x)), 0, table.newInstance(room));
    }

    private static void askAll(RuledTables x, String where) throws ReflectiveOperationException {
        for (Method method : RuledTables.class.getDeclaredMethods()) {
            if (Modifier.isPublic(method.getModifiers()) && !isChange(method.getName())) {
                Object[] given = new Object[method.getParameterCount()];
                ask(x, method, given, 0, where);
            }
        }
    }

    private static boolean isChange(String name) {
        return Arrays.asList("set", "draw", "erase", "write", "strike", "restore").contains(name);
    }

    private static void ask(RuledTables x, Method method, Object[] given, int k, String where)
        throws ReflectiveOperationException {
        if (k < given.length) {
            for (int number : NUMBERS) {
                given[k] = number;
                ask(x, method, given, k + 1, where);
            }
            return;
        }
        try {
            method.invoke(x, given);
        } catch (InvocationTargetException e) {
            DUE.holds(where + method.getName() + Arrays.toString(given) + " threw " + e.getCause(), false);
        }
        DUE.holds("asked", true);
    }
}
