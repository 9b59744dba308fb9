import java.io.IOException;
import java.lang.reflect.Array;
import java.lang.reflect.Field;
import java.lang.reflect.Method;
import java.lang.reflect.Modifier;
import java.nio.file.Files;
import java.nio.file.Path;
import java.util.ArrayList;
import java.util.Arrays;
import java.util.IdentityHashMap;
import java.util.List;
import java.util.Map;
import java.util.TreeSet;

/** The face of the class, the words that LANGUAGE.md keeps out of it, and the room that an object takes. */
public final class FaceTest {
    private static final Due DUE = new Due();
    private static final String SOURCE = "src/main/java/RuledTables.java";
    private static final Object[][] CALLS = {{"set", 2}, {"draw", 4}, {"erase", 1}, {"piece", 2}, {"write", 4},
        {"strike", 1}, {"word", 2}, {"rule", 2}, {"cross", 2}, {"table", 2}, {"edge", 3}, {"ruled", 4}, {"at", 3},
        {"cell", 3}, {"read", 3}, {"missed", 3}, {"mend", 1}, {"heading", 3}, {"image", 1}, {"restore", 1}, {"told", 1}};

    public static void main(String[] args) throws IOException, IllegalAccessException {
        constants();
        calls();
        othersArePrivate();
        classesInside();
        words();
        room();
        DUE.end();
    }

    private static void constants() throws IllegalAccessException {
        String[] names = {"UNKNOWN", "OUTSIDE", "STATE", "FULL", "NO", "NONE"};
        TreeSet<String> found = new TreeSet<>();
        for (Field field : RuledTables.class.getFields()) {
            found.add(field.getName());
        }
        DUE.holds("constants", found.equals(new TreeSet<>(Arrays.asList(names))));
        int[] due = {RuledTables.UNKNOWN, RuledTables.OUTSIDE, RuledTables.STATE, RuledTables.FULL, RuledTables.NO,
            RuledTables.NONE};
        for (int i = 0; i < due.length; i++) {
            DUE.is(names[i], due[i], -1 - i);
        }
    }

    private static void calls() {
        DUE.is("modifiers", RuledTables.class.getModifiers(), Modifier.PUBLIC | Modifier.FINAL);
        DUE.is("constructors", RuledTables.class.getConstructors().length, 1);
        int shown = 0;
        for (Method method : RuledTables.class.getDeclaredMethods()) {
            shown += Modifier.isPublic(method.getModifiers()) ? 1 : 0;
        }
        DUE.is("public methods", shown, CALLS.length);
        for (Object[] call : CALLS) {
            Class<?>[] ints = new Class<?>[(Integer) call[1]];
            Arrays.fill(ints, int.class);
            DUE.holds(call[0] + " is there", has((String) call[0], ints));
        }
    }

    private static boolean has(String name, Class<?>[] types) {
        for (Method method : RuledTables.class.getDeclaredMethods()) {
            boolean fits = method.getName().equals(name) && Arrays.equals(method.getParameterTypes(), types);
            if (fits && method.getReturnType() == int.class && method.getModifiers() == Modifier.PUBLIC) {
                return true;
            }
        }
        return false;
    }

    private static void othersArePrivate() {
        for (Method method : RuledTables.class.getDeclaredMethods()) {
            int modifiers = method.getModifiers();
            DUE.holds(method + ": public or private", Modifier.isPublic(modifiers) || Modifier.isPrivate(modifiers));
        }
        for (Field field : RuledTables.class.getDeclaredFields()) {
            int modifiers = field.getModifiers();
            DUE.holds(field + ": public or private", Modifier.isPublic(modifiers) || Modifier.isPrivate(modifiers));
            DUE.holds(field + ": static is final", !Modifier.isStatic(modifiers) || Modifier.isFinal(modifiers));
        }
    }

    private static void classesInside() {
        Class<?>[] inside = RuledTables.class.getDeclaredClasses();
        DUE.holds("at most twelve classes", inside.length < 12);
        for (Class<?> c : inside) {
            DUE.holds(c + " is static", Modifier.isStatic(c.getModifiers()));
            DUE.holds(c + " has twenty fields at most", c.getDeclaredFields().length <= 20);
            for (Method method : c.getDeclaredMethods()) {
                DUE.holds(method + ": seven parameters at most", method.getParameterCount() <= 7);
                for (Object[] call : CALLS) {
                    DUE.holds(method + " bears no public name", !method.getName().equals(call[0]));
                }
            }
        }
    }

    private static void words() throws IOException {
        String source = Files.readString(Path.of(SOURCE));
        DUE.holds("plain signs alone", source.chars().allMatch(c -> c == '\n' || c >= ' ' && c < 127));
        String code = source.replaceAll("(?s)/\\*.*?\\*/", " ").replaceAll("//[^\n]*", " ");
        String[] barred = {"throw", "throws", "try", "catch", "finally", "synchronized", "assert", "import", "package",
            "protected", "native", "volatile", "System", "Object", "var", "instanceof"};
        for (String word : barred) {
            DUE.holds("no " + word, !code.matches("(?s).*\\b" + word + "\\b.*"));
        }
        DUE.holds("no lambda, no method reference", !code.contains("->") && !code.contains("::"));
        DUE.holds("no static block", !code.matches("(?s).*\\bstatic\\s*\\{.*"));
        DUE.holds("nothing is divided but by two and by four", !code.matches("(?s).*[/%](?! (2|LEAST_RULES)\\b).*"));
    }

    /** Five hundred and more objects must fit in the room together, and calls must make nothing more. */
    private static void room() throws IllegalAccessException {
        RuledTables x = new RuledTables();
        long[] fresh = size(x);
        System.out.println("an object takes " + fresh[0] + " objects and arrays, " + fresh[1] + " fields and elements");
        DUE.holds("objects", fresh[0] * 512 < 600_000);
        DUE.holds("elements", fresh[1] * 512 < 7_300_000);
        for (int i = 0; i < 12; i++) {
            x.draw(0, 8 * i, 0, 99);
            x.draw(1, 8 * i, 0, 99);
        }
        x.table(0, 2);
        x.image(0);
        DUE.holds("no more after calls", Arrays.equals(fresh, size(x)));
    }

    private static long[] size(Object root) throws IllegalAccessException {
        Map<Object, Boolean> seen = new IdentityHashMap<>();
        List<Object> open = new ArrayList<>(List.of(root));
        long elements = 0;
        while (!open.isEmpty()) {
            Object o = open.remove(open.size() - 1);
            if (o == null || seen.put(o, true) != null) {
                continue;
            }
            if (o.getClass().isArray()) {
                elements += Array.getLength(o);
                for (int i = 0; i < Array.getLength(o) && !o.getClass().getComponentType().isPrimitive(); i++) {
                    open.add(Array.get(o, i));
                }
                continue;
            }
            for (Field field : o.getClass().getDeclaredFields()) {
                if (!Modifier.isStatic(field.getModifiers())) {
                    elements++;
                    field.setAccessible(true);
                    if (!field.getType().isPrimitive()) {
                        open.add(field.get(o));
                    }
                }
            }
        }
        return new long[] {seen.size(), elements};
    }
}
