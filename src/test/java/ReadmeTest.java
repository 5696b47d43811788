import java.io.ByteArrayOutputStream;
import java.io.PrintStream;
import java.net.URL;
import java.net.URLClassLoader;
import java.nio.file.Files;
import java.nio.file.Path;
import java.util.List;
import java.util.Map;
import java.util.TreeMap;
import java.util.TreeSet;
import java.util.regex.Matcher;
import java.util.regex.Pattern;
import javax.tools.ToolProvider;

/** That README.md tells of the class as it is: its example runs, and its tables have each call and its refusals. */
public final class ReadmeTest {
    private static final Path DOCUMENT = Path.of("../shared/DOC.md");
    private static final Pattern REFUSAL = Pattern.compile("\\b(BAD|STATE|FULL|NONE)\\b");

    private static int wrong = 0;

    private static void due(String what, Object got, Object want) {
        if (got.equals(want)) return;
        wrong++;
        System.out.println(what + ": " + got + ", due is " + want);
    }

    /** What stands in the first block of a kind, without the fences. */
    private static String block(String readme, String kind) {
        Matcher found = Pattern.compile("(?s)```" + kind + "\n(.*?)```").matcher(readme);
        return found.find() ? found.group(1) : "";
    }

    private static String printedBy(Class<?> example) throws Exception {
        PrintStream usual = System.out;
        ByteArrayOutputStream bytes = new ByteArrayOutputStream();
        System.setOut(new PrintStream(bytes, true));
        try {
            example.getMethod("main", String[].class).invoke(null, (Object) new String[0]);
        } finally {
            System.setOut(usual);
        }
        return bytes.toString().replace("\r\n", "\n");
    }

    private static void example(String readme) throws Exception {
        Path folder = Files.createTempDirectory("example");
        Path source = folder.resolve("Example.java");
        try {
            Files.writeString(source, block(readme, "java"));
            int exit = ToolProvider.getSystemJavaCompiler().run(null, null, null,
                    "-cp", System.getProperty("java.class.path"), "-d", folder.toString(), source.toString());
            due("the example compiles", exit, 0);
            if (exit != 0) return;
            try (URLClassLoader loader = new URLClassLoader(new URL[] {folder.toUri().toURL()})) {
                due("what the example prints", printedBy(loader.loadClass("Example")), block(readme, "text"));
            }
        } finally {
            for (String name : List.of("Example.java", "Example.class")) Files.deleteIfExists(folder.resolve(name));
            Files.delete(folder);
        }
    }

    private static TreeSet<String> refusals(String text) {
        TreeSet<String> found = new TreeSet<>();
        Matcher word = REFUSAL.matcher(text);
        while (word.find()) found.add(word.group());
        return found;
    }

    /** Each call with the rest of its row of a table. */
    private static Map<String, String> rows(String readme) {
        Map<String, String> rows = new TreeMap<>();
        Matcher row = Pattern.compile("(?m)^\\| `(\\w+\\([^)]*\\))` \\|(.*)\\|$").matcher(readme);
        while (row.find()) due("a row twice: " + row.group(1), rows.put(row.group(1), row.group(2)) == null, true);
        return rows;
    }

    private static TreeSet<String> callsOfClass() throws Exception {
        TreeSet<String> calls = new TreeSet<>();
        String source = Files.readString(Path.of("src/main/java/TickKeeper.java"));
        Matcher head = Pattern.compile("(?m)^    public int (\\w+\\([^)]*\\)) \\{$").matcher(source);
        while (head.find()) calls.add(head.group(1));
        return calls;
    }

    private static void refusalsOfDocument(Map<String, String> rows) throws Exception {
        if (!Files.isReadable(DOCUMENT)) {
            System.out.println("there is no " + DOCUMENT + ": the refusals were not compared with it");
            return;
        }
        Matcher promise = Pattern.compile("(?m)^`int (\\w+\\([^)]*\\))`: (.*)$").matcher(Files.readString(DOCUMENT));
        int promises = 0;
        while (promise.find()) {
            promises++;
            due("refusals of " + promise.group(1), refusals(rows.getOrDefault(promise.group(1), "")), refusals(promise.group(2)));
        }
        due("promises of calls", promises, rows.size());
    }

    public static void main(String[] args) throws Exception {
        String readme = Files.readString(Path.of("README.md"));
        Map<String, String> rows = rows(readme);
        example(readme);
        due("the calls in the tables", rows.keySet(), callsOfClass());
        due("how many calls", rows.size(), 33);
        refusalsOfDocument(rows);
        System.out.println(wrong == 0 ? "README.md tells of the class as it is" : wrong + " faults");
        if (wrong != 0) System.exit(1);
    }
}
