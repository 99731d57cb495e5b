import java.io.IOException;
import java.net.URL;
import java.net.URLClassLoader;
import java.nio.file.Files;
import java.nio.file.Path;
import java.util.ArrayList;
import java.util.Arrays;
import java.util.HashMap;
import java.util.List;
import java.util.Map;
import java.util.TreeSet;
import java.util.regex.Matcher;
import java.util.regex.Pattern;
import java.util.spi.ToolProvider;
import java.util.stream.Stream;

/** What README.md shows: its example compiles and runs, and each answer that it tells is the class's. */
public final class ReadmeTest {
    private static final String NEW_OBJECT = "FurPosts company = new FurPosts();";
    /** A call, what keeps its answer if anything does, and the answer that is told behind it. */
    private static final Pattern TOLD = Pattern.compile(
            "(?:(int|boolean) (\\w+) = )?company\\.((\\w+)\\([^()]*\\)); +// (-?\\d+|NONE|true|false)(: \\S.*)?");

    private static final Readme README = new Readme();
    private static final Document DOCUMENT = new Document();
    private static final Check CHECK = new Check("ReadmeTest");

    public static void main(String[] args) throws IOException, ReflectiveOperationException {
        if (exampleRuns()) {
            answersOfExample();
        }
        tableOfCalls();
        tableOfTests();
        CHECK.end();
    }

    private static boolean exampleRuns() throws IOException, ReflectiveOperationException {
        Path out = Files.createTempDirectory("readme");
        try {
            int compiled = compileExample(out);
            CHECK.due("javac of README.md's example", compiled, 0);
            if (compiled == 0) {
                runExample(out);
            }
            return compiled == 0;
        } finally {
            deleteAll(out);
        }
    }

    /** As the page says: the class's file and the example's, by one command. */
    private static int compileExample(Path out) throws IOException {
        Path example = out.resolve("Example.java");
        Files.writeString(example, "public final class Example {\n    public static void main(String[] args) {\n"
                + String.join("\n", README.code()) + "\n    }\n}\n");
        List<String> words = new ArrayList<>(List.of("-Xlint:all", "-Werror"));
        for (String word : README.typed("javac .* Example\\.java").split(" ")) {
            words.add(word.equals("out") ? out.toString() : word.equals("Example.java") ? example.toString() : word);
        }
        words.remove("javac");
        ToolProvider javac = ToolProvider.findFirst("javac").orElseThrow();
        return javac.run(System.out, System.out, words.toArray(new String[0]));
    }

    private static void runExample(Path out) throws IOException, ReflectiveOperationException {
        URL[] path = {out.toUri().toURL()};
        try (URLClassLoader loader = new URLClassLoader(path, ClassLoader.getPlatformClassLoader())) {
            Class<?> example = loader.loadClass(README.typed("java .* Example").replaceAll(".* ", ""));
            example.getMethod("main", String[].class).invoke(null, (Object) new String[0]);
        }
    }

    private static void answersOfExample() {
        FurPosts company = new FurPosts();
        Map<String, Long> kept = new HashMap<>();
        TreeSet<String> shown = new TreeSet<>();
        kept.put("FurPosts.NONE", (long) FurPosts.NONE);
        CHECK.due("the example begins with a new object", README.code().indexOf(NEW_OBJECT), 0);
        for (String line : README.code().subList(1, README.code().size())) {
            Matcher told = TOLD.matcher(line);
            if (!told.matches()) {
                CHECK.due("README.md tells what this answers: " + line, false, true);
                continue;
            }
            Call call = Call.all(withNumbers(told.group(3), kept)).get(0);
            long answer = call.on(company);
            CHECK.due(line, answer, number(told.group(5)));
            CHECK.due(line + " is of that kind", told.group(5).matches("true|false"), call.answersBoolean());
            kept.put(told.group(2), answer);
            shown.add(told.group(4));
        }
        for (String method : DOCUMENT.methods()) {
            CHECK.due("the example shows " + method, shown.contains(nameOf(method)), true);
        }
    }

    /** Refused calls: no number of the document may be -2, and eight posts are there. */
    private static void tableOfCalls() {
        List<String> calls = README.rows("call").stream().map(cells -> cells.get(0)).toList();
        CHECK.due("the table has the document's face, in its order", calls.equals(DOCUMENT.methods()), true);
        FurPosts full = Check.posts(8);
        for (List<String> cells : README.rows("call")) {
            String call = cells.get(0);
            int[] arguments = new int[call.endsWith("()") ? 0 : call.split(",").length];
            Arrays.fill(arguments, -2);
            long answer = Call.named(nameOf(call), arguments).on(full);
            CHECK.due(call + ", refused", answer, number(cells.get(2)));
            CHECK.due(call + ", of that kind", cells.get(2).equals("false"), call.startsWith("boolean"));
        }
    }

    private static void tableOfTests() throws IOException {
        TreeSet<String> told = new TreeSet<>();
        for (List<String> cells : README.rows("test")) {
            told.add(cells.get(0));
        }
        TreeSet<String> there = new TreeSet<>();
        try (Stream<Path> files = Files.list(Path.of("src/test/java"))) {
            files.map(file -> file.getFileName().toString()).filter(name -> name.endsWith("Test.java"))
                    .forEach(name -> there.add(name.replace(".java", "")));
        }
        CHECK.due("README.md tells " + told + " of " + there, told.equals(there), true);
        Path script = Path.of(README.typed("bash .*").substring("bash ".length()));
        CHECK.due(script + " can be run", Files.isExecutable(script), true);
        CHECK.due("the test to run alone", there.contains(README.typed("java .*Test").replaceAll(".* ", "")), true);
    }

    private static String withNumbers(String call, Map<String, Long> kept) {
        int open = call.indexOf('(');
        StringBuilder told = new StringBuilder();
        for (String argument : call.substring(open + 1, call.length() - 1).split(", ")) {
            told.append(told.isEmpty() ? "" : ", ");
            told.append(kept.containsKey(argument) ? String.valueOf(kept.get(argument)) : argument);
        }
        return call.substring(0, open) + "(" + told + ")";
    }

    private static String nameOf(String method) {
        return method.replaceAll("\\w+ (\\w+)\\(.*", "$1");
    }

    private static long number(String answer) {
        switch (answer) {
            case "NONE": return FurPosts.NONE;
            case "true": return 1;
            case "false": return 0;
            default: return Long.parseLong(answer);
        }
    }

    private static void deleteAll(Path out) throws IOException {
        try (Stream<Path> files = Files.list(out)) {
            for (Path file : files.toList()) {
                Files.delete(file);
            }
        }
        Files.delete(out);
    }
}
