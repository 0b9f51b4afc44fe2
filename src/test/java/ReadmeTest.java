import java.io.IOException;
import java.net.URL;
import java.net.URLClassLoader;
import java.nio.file.Files;
import java.nio.file.Path;
import java.util.ArrayList;
import java.util.LinkedHashMap;
import java.util.List;
import java.util.Map;
import java.util.Set;
import java.util.TreeSet;
import java.util.regex.Matcher;
import java.util.regex.Pattern;
import javax.tools.ToolProvider;

/**
 * README.md: the calls that it shows are compiled and run as they stand there, one block behind the other, and must
 * answer what stands behind them; its tables must name each call of the document with the refusals that it has there.
 */
public final class ReadmeTest {
    private static final Check check = new Check("ReadmeTest");
    private static final Path README = Path.of("README.md"), DOCUMENT = Path.of("../shared/DOC.md");

    private static final String REFUSAL = "UNKNOWN|OUTSIDE|NOT|FULL";
    private static final Pattern CALL = Pattern.compile("(x\\.(\\w+)\\(.*\\)); +// (-?\\d+|NONE|" + REFUSAL + ")(:.*)?");
    private static final Pattern FEEDING = Pattern.compile("for \\(char letter : .*\\.toCharArray\\(\\)\\) x\\.feed\\(letter\\);");
    private static final Pattern PROMISE = Pattern.compile("`(?:int )?(\\w+)\\((.*?)\\)`: (.*)");
    private static final Pattern ROW = Pattern.compile("\\| `(\\w+)\\((.*?)\\)` \\| (.*) \\|(.*)\\|");

    public static void main(String[] args) throws IOException, ReflectiveOperationException {
        List<String> page = Files.readAllLines(README);
        Set<String> shown = examples(page);
        tables(page, Files.readAllLines(DOCUMENT), shown);
        check.end();
    }

    // ---- what is shown of calls

    /** Runs the blocks, and tells which calls they show. */
    private static Set<String> examples(List<String> page) throws IOException, ReflectiveOperationException {
        StringBuilder body = new StringBuilder();
        List<String> told = new ArrayList<>();
        Set<String> shown = new TreeSet<>(Set.of("feed"));
        boolean inside = false;
        for (int i = 0; i < page.size(); i++) {
            String line = page.get(i);
            if (line.startsWith("```")) {
                inside = line.equals("```java");
            } else if (inside) {
                Matcher call = CALL.matcher(line);
                if (call.matches()) {
                    String want = call.group(3).matches("-?\\d+") ? call.group(3) : "LeftCoaches." + call.group(3);
                    body.append("all.add(new int[] {").append(call.group(1)).append(", ").append(want).append("});\n");
                    told.add("README.md, line " + (i + 1) + ": " + call.group(1));
                    shown.add(call.group(2));
                } else {
                    boolean plain = FEEDING.matcher(line).matches() || !line.contains("x.");
                    check.due("line " + (i + 1) + " shows a call without its answer: " + line, plain ? 1 : 0, 1);
                    body.append(line).append('\n');
                }
            }
        }
        List<int[]> answers = run(body.toString());
        check.due("calls that were run", answers.size(), told.size());
        for (int i = 0; i < answers.size(); i++) {
            check.due(told.get(i), answers.get(i)[0], answers.get(i)[1]);
        }
        return shown;
    }

    /** Compiles the blocks beside the class that the tests use; each pair is an answer and the one that is shown. */
    private static List<int[]> run(String body) throws IOException, ReflectiveOperationException {
        Path folder = Files.createTempDirectory("readme");
        Path source = folder.resolve("Shown.java");
        Path compiled = folder.resolve("Shown.class");
        try {
            Files.writeString(source, "public final class Shown { public static java.util.List<int[]> run() {\n"
                + "java.util.List<int[]> all = new java.util.ArrayList<>();\n" + body + "return all; } }\n");
            int exit = ToolProvider.getSystemJavaCompiler().run(null, null, null,
                "-cp", System.getProperty("java.class.path"), "-d", folder.toString(), source.toString());
            check.due("the blocks do not compile", exit, 0);
            List<int[]> answers = new ArrayList<>();
            if (exit == 0) {
                try (URLClassLoader loader = new URLClassLoader(new URL[] {folder.toUri().toURL()})) {
                    for (Object pair : (List<?>) loader.loadClass("Shown").getMethod("run").invoke(null)) {
                        answers.add((int[]) pair);
                    }
                }
            }
            return answers;
        } finally {
            Files.deleteIfExists(compiled);
            Files.deleteIfExists(source);
            Files.delete(folder);
        }
    }

    // ---- what is said of calls

    private static void tables(List<String> page, List<String> document, Set<String> shown) {
        Map<String, Matcher> rows = new LinkedHashMap<>();
        for (String line : page) {
            Matcher row = ROW.matcher(line);
            if (row.matches()) {
                check.due("a second row of " + row.group(1), rows.put(row.group(1), row) == null ? 1 : 0, 1);
            }
        }
        int promise = 0;
        int calls = 0;
        for (String line : document) {
            Matcher due = PROMISE.matcher(line);
            if (due.matches()) {
                promise++;
                check.promise(promise);
                if (promise > 1) {
                    calls++;
                    row(due, rows.get(due.group(1)), shown);
                }
            }
        }
        check.promise(0);
        check.due("promises of the document", promise, 34);
        check.due("rows for calls", rows.size(), calls);
    }

    private static void row(Matcher due, Matcher row, Set<String> shown) {
        String name = due.group(1);
        check.due(name + " has a row", row == null ? 0 : 1, 1);
        check.due(name + " is shown", shown.contains(name) ? 1 : 0, 1);
        if (row != null) {
            String names = due.group(2).replaceAll("(int|boolean) ", "");
            check.due(name + " takes " + names, row.group(2).equals(names) ? 1 : 0, 1);
            String want = refusals(due.group(3));
            String got = refusals(row.group(4));
            check.due(name + " refuses by " + got + ", the document by " + want, got.equals(want) ? 1 : 0, 1);
        }
    }

    private static String refusals(String words) {
        StringBuilder found = new StringBuilder();
        Matcher word = Pattern.compile("\\b(" + REFUSAL + ")\\b").matcher(words);
        while (word.find()) {
            found.append(word.group()).append(' ');
        }
        return found.toString();
    }
}
