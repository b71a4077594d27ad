import java.io.IOException;
import java.net.URL;
import java.net.URLClassLoader;
import java.nio.file.Files;
import java.nio.file.Path;
import java.util.ArrayList;
import java.util.LinkedHashMap;
import java.util.List;
import java.util.Map;
import java.util.TreeSet;
import java.util.regex.Matcher;
import java.util.regex.Pattern;
import java.util.stream.Stream;
import javax.tools.JavaCompiler;
import javax.tools.ToolProvider;

/** README.md says what is so: its examples answer what it tells, its table of refusals is the document's. */
public final class ReadmeTest {
    private static final Pattern ASKED = Pattern.compile("(?m)^(x\\..*);\\s+// (-?\\d+|true|false)\\b.*$");
    private static final Pattern REFUSALS = Pattern.compile("(?m)^\\| ((?:`\\w+` ?)+) \\| ([\\d, ]+) \\|$");
    private static final Pattern PROMISE = Pattern.compile("(?m)^`(?:\\w+ )?(\\w+)\\([^`]*`: (.*)$");

    private ReadmeTest() {
    }

    public static void main(String[] args) throws IOException, ReflectiveOperationException {
        String page = Files.readString(Path.of("README.md"));
        examples(page);
        refusals(page, Path.of(args.length > 1 ? args[1] : "../shared/DOC.md"));
        testsAreNamed(page);
        Check.end("ReadmeTest");
    }

    private static List<String> blocks(String page, String sort) {
        List<String> blocks = new ArrayList<>();
        Matcher block = Pattern.compile("(?s)\n```" + sort + "\n(.*?)```").matcher(page);
        while (block.find()) {
            blocks.add(block.group(1));
        }
        return blocks;
    }

    /** All blocks are one program, in the order in which they stand; what is told behind // is due. */
    private static void examples(String page) throws IOException, ReflectiveOperationException {
        StringBuilder methods = new StringBuilder();
        StringBuilder body = new StringBuilder();
        int asked = 0;
        for (String block : blocks(page, "java")) {
            if (block.startsWith("static")) {
                methods.append(block);
                continue;
            }
            Matcher line = ASKED.matcher(block);
            while (line.find()) {
                asked++;
            }
            body.append(line.replaceAll("ReadmeTest.due(\"README: $1\", $1, $2);"));
        }
        Check.due("lines that tell an answer", asked > 30, true);
        List<String> texts = blocks(page, "text");
        Check.due("texts of a house", texts.size(), 1);
        String text = String.join("", texts).replace("\n", "");
        run("public final class Example {\n" + methods + "public static void run() {\nString text = \"" + text + "\";\n" + body + "}\n}\n");
    }

    private static void run(String program) throws IOException, ReflectiveOperationException {
        JavaCompiler compiler = ToolProvider.getSystemJavaCompiler();
        if (compiler == null) {
            System.out.println("no compiler in this Java: the examples are not run");
            return;
        }
        Path room = Files.createTempDirectory("readme");
        Path source = Files.writeString(room.resolve("Example.java"), program);
        int ended = compiler.run(null, System.out, System.out, "-cp",
                System.getProperty("java.class.path"), "-d", room.toString(), source.toString());
        Check.due("the examples compile", ended, 0);
        if (ended == 0) {
            try (URLClassLoader loader = new URLClassLoader(new URL[] {room.toUri().toURL()})) {
                loader.loadClass("Example").getMethod("run").invoke(null);
            }
        }
        for (String left : new String[] {"Example.class", "Example.java", ""}) {
            Files.deleteIfExists(room.resolve(left));
        }
    }

    /** Public, as another loader brings the examples: to them Check can't be seen. */
    public static void due(String call, long got, long want) {
        Check.due(call, got, want);
    }

    public static void due(String call, boolean got, boolean want) {
        Check.due(call, got, want);
    }

    private static void refusals(String page, Path document) throws IOException {
        Map<String, String> told = new LinkedHashMap<>();
        Matcher row = REFUSALS.matcher(page);
        while (row.find()) {
            for (String call : row.group(1).replace("`", "").split(" ")) {
                told.put(call, row.group(2));
            }
        }
        Check.due("calls in the table", told.size(), 49);
        if (!Files.isRegularFile(document)) {
            System.out.println("no document at " + document + ": the table is not compared with it");
            return;
        }
        Map<String, String> due = refusalsOf(Files.readString(document));
        Check.due("calls that may be refused " + due.keySet() + ", told " + told.keySet(), due.keySet().equals(told.keySet()), true);
        for (String call : due.keySet()) {
            Check.due(call + " is refused by " + due.get(call) + ", told " + told.get(call), due.get(call).equals(told.get(call)), true);
        }
    }

    /** By call: the numbers that its promise tells behind NONE, -1 or false; likewise: those of the one ahead. */
    private static Map<String, String> refusalsOf(String document) {
        Map<String, String> due = new LinkedHashMap<>();
        Matcher promise = PROMISE.matcher(document);
        String ahead = "";
        while (promise.find()) {
            Matcher refused = Pattern.compile("(?:NONE|-1|false): (likewise|\\d(?:; \\d)*)\\.").matcher(promise.group(2).replaceAll(" \\([^()]*\\)", ""));
            if (refused.find()) {
                ahead = refused.group(1).equals("likewise") ? ahead : refused.group(1).replace(";", ",");
                due.put(promise.group(1), ahead);
            }
        }
        return due;
    }

    private static void testsAreNamed(String page) throws IOException {
        TreeSet<String> named = new TreeSet<>();
        Matcher row = Pattern.compile("(?m)^\\| (\\w+Test) \\|").matcher(page);
        while (row.find()) {
            named.add(row.group(1));
        }
        TreeSet<String> there = new TreeSet<>();
        try (Stream<Path> files = Files.list(Path.of("src/test/java"))) {
            files.map(file -> file.getFileName().toString()).filter(name -> name.endsWith("Test.java"))
                    .forEach(name -> there.add(name.substring(0, name.length() - ".java".length())));
        }
        Check.due("tests named " + named + ", there " + there, named.equals(there), true);
    }
}
