import java.io.File;
import java.io.IOException;
import java.lang.reflect.Field;
import java.lang.reflect.Method;
import java.lang.reflect.Modifier;
import java.nio.file.Files;
import java.nio.file.Path;
import java.util.Arrays;
import java.util.regex.Matcher;
import java.util.regex.Pattern;

/** README.md tells every call with its refusals, every constant and every test, and its example is true. */
public final class ReadmeTest {
    private static final Due DUE = new Due();
    private static final Pattern EXAMPLE = Pattern.compile("(?s)```java\n(.*?)```");
    private static final Pattern CALL = Pattern.compile("page\\.(\\w+)\\(([-\\d, ]*)\\); +// (-?\\d+)(:.*)?");
    private static final Pattern PROMISE = Pattern.compile("`int ((\\w+)\\([^)]*\\))`: ([^\n]*)");
    private static final String[] REFUSALS = {"UNKNOWN", "OUTSIDE", "NO", "STATE", "FULL"};

    public static void main(String[] args) throws IOException, IllegalAccessException {
        String readme = Files.readString(Path.of("README.md"));
        String document = Files.readString(Path.of("../shared/DOC.md"));
        example(readme);
        calls(readme, document);
        constants(readme);
        tests(readme);
        DUE.end();
    }

    private static void example(String readme) {
        Matcher block = EXAMPLE.matcher(readme);
        DUE.holds("there is an example", block.find());
        String[] lines = block.group(1).split("\n");
        DUE.holds("an object is made", lines[0].equals("RuledTables page = new RuledTables();"));
        Run run = new Run(DUE);
        for (String line : Arrays.copyOfRange(lines, 1, lines.length)) {
            Matcher call = CALL.matcher(line);
            DUE.holds("a call with its answer: " + line, call.matches());
            int[] numbers = Arrays.stream(call.group(2).split(", ")).mapToInt(Integer::parseInt).toArray();
            run.is(Integer.parseInt(call.group(3)), call.group(1), numbers);
        }
    }

    /** Each promise of the document has a row with the same parameters and the same refusals. */
    private static void calls(String readme, String document) {
        int found = 0;
        Matcher promise = PROMISE.matcher(document);
        while (promise.find()) {
            found++;
            String signature = promise.group(1).replace("int ", "");
            Matcher row = Pattern.compile("\\| `" + Pattern.quote(signature) + "` \\| (.*) \\| ([A-Z, ]+) \\|\n")
                .matcher(readme);
            DUE.holds(signature + " has a row", row.find());
            for (String refusal : REFUSALS) {
                boolean isDue = names(promise.group(3), refusal);
                DUE.holds(signature + " " + refusal, names(row.group(2), refusal) == isDue);
            }
            DUE.holds(signature + " NONE", names(row.group(1), "NONE") == names(promise.group(3), "NONE"));
        }
        int shown = 0;
        for (Method method : RuledTables.class.getDeclaredMethods()) {
            shown += Modifier.isPublic(method.getModifiers()) ? 1 : 0;
        }
        DUE.is("calls", found, shown);
    }

    private static boolean names(String text, String word) {
        return Pattern.compile("\\b" + word + "\\b").matcher(text).find();
    }

    private static void constants(String readme) throws IllegalAccessException {
        for (String refusal : REFUSALS) {
            DUE.holds(refusal + " has a row", Pattern.compile("\\| `" + refusal + "` \\| -\\d \\| ").matcher(readme).find());
        }
        for (Field constant : RuledTables.class.getFields()) {
            String told = "`" + constant.getName() + "` | " + constant.getInt(null) + " |";
            String toldInText = "`" + constant.getName() + "` (" + constant.getInt(null) + ")";
            DUE.holds(told, readme.contains(told) || readme.contains(toldInText));
        }
    }

    private static void tests(String readme) {
        String[] files = new File("src/test/java").list((place, name) -> name.endsWith("Test.java"));
        DUE.holds("there are tests", files != null && files.length > 0);
        for (String file : files) {
            String row = "| `" + file.replace(".java", "") + "` | ";
            DUE.holds(row, readme.contains(row));
        }
        DUE.holds("how to run them", readme.contains("    .ci/run\n"));
    }
}
