import java.io.File;
import java.io.IOException;
import java.lang.reflect.Method;
import java.lang.reflect.Modifier;
import java.nio.file.Files;
import java.nio.file.Path;
import java.util.ArrayList;
import java.util.List;
import java.util.TreeSet;
import java.util.regex.Matcher;
import java.util.regex.Pattern;

/** What README.md shows is true of the program: its calls and answers, its commands, its files, its table. */
public final class ReadmeTest {
    private static final Check CHECK = new Check("ReadmeTest");
    private static final String NEW_BENCH = "Lensbench bench = new Lensbench();";
    private static final String ALL_TESTS = ".ci/run";
    private static final Pattern CALL = Pattern.compile("bench\\.(\\w+)\\(([-0-9, ]*)\\);\\s+// (\"[^\"]*\"|[^:]+): .+");
    private static final Pattern ROW = Pattern.compile("\\| `(\\w+)` \\| .+ \\|");
    private static final Pattern NAMED_PATH = Pattern.compile("`((?:\\.\\./|src/|\\.ci/)[\\w./]+)`");
    private static final int MOST_CALLS = 512;

    public static void main(String[] args) throws IOException, InterruptedException {
        List<String> page = Files.readAllLines(Path.of("README.md"));
        answersAreTrue(block(page, "java"));
        everyCallIsShown(block(page, "java"));
        commandsEndWell(block(page, "sh"));
        tableNamesEveryTest(page);
        filesAreThere(page);
        CHECK.end();
    }

    /** The lines of all blocks of that language, one behind the other. */
    private static List<String> block(List<String> page, String language) {
        List<String> lines = new ArrayList<>();
        boolean inside = false;
        for (String line : page) {
            if (line.startsWith("```")) {
                inside = line.equals("```" + language);
            } else if (inside && !line.isBlank()) {
                lines.add(line);
            }
        }
        return lines;
    }

    private static void answersAreTrue(List<String> lines) {
        CHECK.same("the first line makes a bench", lines.get(0).startsWith(NEW_BENCH), true);
        CHECK.same("no more than 512 calls", lines.size() - 1 <= MOST_CALLS, true);
        Lensbench bench = new Lensbench();
        for (String line : lines.subList(1, lines.size())) {
            Matcher call = CALL.matcher(line);
            CHECK.same("can be read: " + line, call.matches(), true);
            if (call.matches()) {
                CHECK.text(line, told(Edge.answer(bench, call.group(1), whole(call.group(2)))), call.group(3));
            }
        }
    }

    private static String told(Object answer) {
        String text = String.valueOf(answer);
        if (text.startsWith("throws.")) {
            return text.replace("throws.", "throws ");
        }
        return answer instanceof String ? '"' + text + '"' : text;
    }

    private static int[] whole(String list) {
        String[] parts = list.isBlank() ? new String[0] : list.split(",");
        int[] numbers = new int[parts.length];
        for (int i = 0; i < parts.length; i++) {
            numbers[i] = Integer.parseInt(parts[i].trim());
        }
        return numbers;
    }

    private static void everyCallIsShown(List<String> lines) {
        String all = String.join("\n", lines);
        for (Method method : Lensbench.class.getDeclaredMethods()) {
            if (Modifier.isPublic(method.getModifiers())) {
                CHECK.same(method.getName() + " is shown", all.contains("bench." + method.getName() + "("), true);
            }
        }
        for (String thrown : new String[] {"IndexOutOfBounds", "IllegalArgument", "IllegalState"}) {
            CHECK.same(thrown + "Exception is shown", all.contains("// throws " + thrown + "Exception: "), true);
        }
    }

    /** All but the command that runs this test itself; of that one, that it can be run. */
    private static void commandsEndWell(List<String> lines) throws IOException, InterruptedException {
        CHECK.same("the command for all tests is shown", lines.contains(ALL_TESTS), true);
        CHECK.same("the command for all tests can be run", new File(ALL_TESTS).canExecute(), true);
        for (String line : lines) {
            if (!line.equals(ALL_TESTS)) {
                CHECK.text(line, runs(line), "ends well");
            }
        }
    }

    private static String runs(String command) throws IOException, InterruptedException {
        Process shell = new ProcessBuilder("sh", "-c", command).redirectErrorStream(true).start();
        String printed = new String(shell.getInputStream().readAllBytes());
        // A loop over tests ends with code 0 whatever they do, and only prints which failed.
        return shell.waitFor() == 0 && !printed.contains("FAILED") ? "ends well" : printed;
    }

    private static void tableNamesEveryTest(List<String> page) {
        TreeSet<String> told = new TreeSet<>();
        for (String line : page) {
            Matcher row = ROW.matcher(line);
            if (row.matches()) {
                told.add(row.group(1));
            }
        }
        TreeSet<String> there = new TreeSet<>();
        String[] files = new File("src/test/java").list();
        for (String file : files == null ? new String[0] : files) {
            if (file.endsWith("Test.java")) {
                there.add(file.replace(".java", ""));
            }
        }
        CHECK.text("the table of tests", told.toString(), there.toString());
    }

    private static void filesAreThere(List<String> page) {
        Matcher path = NAMED_PATH.matcher(String.join("\n", page));
        while (path.find()) {
            CHECK.same(path.group(1) + " is there", new File(path.group(1)).exists(), true);
        }
    }
}
