import java.io.IOException;
import java.nio.file.Files;
import java.nio.file.Path;
import java.util.ArrayList;
import java.util.List;
import java.util.concurrent.ExecutorService;
import java.util.concurrent.Executors;
import java.util.concurrent.Future;
import java.util.concurrent.TimeUnit;
import java.util.regex.Matcher;
import java.util.regex.Pattern;

/**
 * Breaks the class in one place after another, and tells the changes that no test by sentence finds.
 * It is no test: some changes break nothing that can be asked. java -cp CLASSES Mutants DIRECTORY
 */
public final class Mutants {
    private static final String NAME = "RuledTables.java";
    private static final Path SOURCE = Path.of("src/main/java", NAME);
    private static final String[][] SWAPS = {{" < ", " <= "}, {" <= ", " < "}, {" > ", " >= "}, {" >= ", " > "},
        {" < ", " != "}, {" == ", " != "}, {" != ", " == "}, {" && ", " || "}, {" || ", " && "}, {" + ", " - "},
        {" - ", " + "}, {" * ", " + "}, {" += ", " -= "}, {"++", "--"}, {"--", "++"}, {"Math.max", "Math.min"},
        {"Math.min", "Math.max"}, {"true", "false"}, {"false", "true"}, {"!", ""}, {"ACROSS", "DOWN"},
        {"DOWN", "ACROSS"}, {"FROM", "TO"}, {"TO", "FROM"}, {"LEFT", "TOP"}, {"TOP", "LEFT"}, {"RIGHT", "BOTTOM"},
        {"BOTTOM", "RIGHT"}, {"LEFT", "RIGHT"}, {"TOP", "BOTTOM"}, {"UNKNOWN", "OUTSIDE"}, {"OUTSIDE", "UNKNOWN"},
        {"STATE", "OUTSIDE"}, {"FULL", "NO"}, {"NO", "FULL"}, {"NONE", "UNKNOWN"}, {"OPEN", "BROKEN"},
        {"BROKEN", "OPEN"}, {"SLOP", "GAP"}, {"GAP", "REACH"}, {"REACH", "SLOP"}};

    private record Change(int from, int to, String by) { }

    public static void main(String[] args) throws Exception {
        if (args.length == 1 && args[0].equals("run")) {
            runTests();
            return;
        }
        String source = Files.readString(SOURCE);
        List<Change> changes = changesOf(source);
        ExecutorService workers = Executors.newFixedThreadPool(Runtime.getRuntime().availableProcessors());
        List<Future<String>> fates = new ArrayList<>();
        for (int i = 0; i < changes.size(); i++) {
            Path place = Files.createDirectories(Path.of(args[0], "mutant" + i));
            Change change = changes.get(i);
            fates.add(workers.submit(() -> fateOf(source, change, place)));
        }
        int[] count = new int[3];
        for (int i = 0; i < fates.size(); i++) {
            String fate = fates.get(i).get();
            count[fate.equals("found") ? 0 : fate.equals("no Java") ? 1 : 2]++;
            if (fate.startsWith("NOT")) {
                System.out.println(fate + ": " + textOf(source, changes.get(i)));
            }
        }
        workers.shutdown();
        System.out.println(count[0] + " found, " + count[2] + " not found, " + count[1] + " were no Java");
    }

    private static void runTests() {
        PageBoundsTest.main(new String[0]);
        RulesBoundsTest.main(new String[0]);
        TablesBoundsTest.main(new String[0]);
        WordsBoundsTest.main(new String[0]);
        HeadingsBoundsTest.main(new String[0]);
        RefusedTest.main(new String[0]);
    }

    private static List<Change> changesOf(String source) {
        String code = blankComments(source);
        List<Change> changes = new ArrayList<>();
        for (String[] swap : SWAPS) {
            boolean isWord = Character.isLetter(swap[0].charAt(0));
            String sign = isWord ? "\\b" + Pattern.quote(swap[0]) + "\\b" : Pattern.quote(swap[0]);
            Matcher m = Pattern.compile(swap[0].equals("!") ? "!(?!=)" : sign).matcher(code);
            while (m.find()) {
                changes.add(new Change(m.start(), m.end(), swap[1]));
            }
        }
        Matcher number = Pattern.compile("\\b\\d+\\b").matcher(code);
        while (number.find()) {
            int n = Integer.parseInt(number.group());
            changes.add(new Change(number.start(), number.end(), "(" + (n + 1) + ")"));
            changes.add(new Change(number.start(), number.end(), "(" + (n - 1) + ")"));
        }
        Matcher line = Pattern.compile("(?m)^ +(?!return|int |boolean |final |private |public |static |break|case )[^\n{}]*;$")
            .matcher(code);
        while (line.find()) {
            changes.add(new Change(line.start(), line.end(), ";"));
        }
        Matcher condition = Pattern.compile("if \\((.*)\\) \\{").matcher(code);
        while (condition.find()) {
            changes.add(new Change(condition.start(1), condition.end(1), "1 == 0"));
        }
        return changes;
    }

    private static String blankComments(String source) {
        StringBuilder code = new StringBuilder(source);
        Matcher m = Pattern.compile("(?s)/\\*.*?\\*/|//[^\n]*").matcher(source);
        while (m.find()) {
            for (int i = m.start(); i < m.end(); i++) {
                code.setCharAt(i, source.charAt(i) == '\n' ? '\n' : ' ');
            }
        }
        return code.toString();
    }

    private static String fateOf(String source, Change change, Path place) throws IOException, InterruptedException {
        Path file = place.resolve(NAME);
        Files.writeString(file, source.substring(0, change.from()) + change.by() + source.substring(change.to()));
        if (javax.tools.ToolProvider.getSystemJavaCompiler().run(null, null, new java.io.ByteArrayOutputStream(),
            "-nowarn", "-d", place.toString(), file.toString()) != 0) {
            return "no Java";
        }
        String path = place + java.io.File.pathSeparator + System.getProperty("java.class.path");
        Process run = new ProcessBuilder("java", "-XX:TieredStopAtLevel=1", "-XX:+UseSerialGC", "-cp", path, "Mutants", "run")
            .redirectOutput(ProcessBuilder.Redirect.DISCARD).redirectError(ProcessBuilder.Redirect.DISCARD).start();
        if (!run.waitFor(60, TimeUnit.SECONDS)) {
            run.destroyForcibly();
            return "found";
        }
        return run.exitValue() == 0 ? "NOT found" : "found";
    }

    private static String textOf(String source, Change change) {
        int line = (int) source.substring(0, change.from()).chars().filter(c -> c == '\n').count() + 1;
        int begin = source.lastIndexOf('\n', change.from()) + 1;
        int end = source.indexOf('\n', change.to());
        return "line " + line + ": " + source.substring(begin, change.from()).strip() + " [[" +
            source.substring(change.from(), change.to()).strip() + " -> " + change.by().strip() + "]] "
            + source.substring(change.to(), end).strip();
    }
}
