import java.io.IOException;
import java.lang.reflect.Method;
import java.lang.reflect.Modifier;
import java.net.URL;
import java.net.URLClassLoader;
import java.nio.file.Files;
import java.nio.file.Path;
import java.util.ArrayList;
import java.util.List;
import java.util.Optional;
import java.util.TreeSet;
import java.util.regex.Matcher;
import java.util.regex.Pattern;
import java.util.spi.ToolProvider;
import java.util.stream.Stream;

/** README.md tells the truth: its examples answer what they say, and its tables leave no call and no test out. */
public final class ReadmeTest {
    private static final Path README = Path.of("README.md");
    private static final Path TESTS = Path.of("src/test/java");
    private static final Pattern EXAMPLE = Pattern.compile("^```java\n(.*?)^```$", Pattern.DOTALL | Pattern.MULTILINE);
    private static final Pattern TOLD = Pattern.compile("(\\w+\\.\\w+\\(.*\\));\\s+// (-?\\d+(\\.\\d+)?)(:.*|,.*)?");
    private static final Pattern CALL_ROW = Pattern.compile("^\\| `(\\w+)\\((.*?)\\)` \\|", Pattern.MULTILINE);
    private static final Pattern TEST_ROW = Pattern.compile("^\\| (\\w+Test(, \\w+Test)*) \\|", Pattern.MULTILINE);

    private static final Check check = new Check();

    public static void main(String[] args) throws Exception {
        String readme = Files.readString(README);
        Matcher example = EXAMPLE.matcher(readme);
        int examples = 0;
        while (example.find()) {
            examples++;
            runExample("Example" + examples, example.group(1));
        }
        check.due("no examples were found", examples == 0 ? 1 : 0, 0);
        tableOfCalls(readme);
        tableOfTests(readme);
        check.due("README.md tells how all tests are run", readme.contains("\nbash .ci/run\n") ? 1 : 0, 1);
        check.end();
    }

    /** A line that tells an answer behind it is run as a call whose answer is collected. */
    private static void runExample(String name, String text) throws Exception {
        StringBuilder body = new StringBuilder();
        List<String> calls = new ArrayList<>();
        List<Double> due = new ArrayList<>();
        for (String line : text.split("\n")) {
            Matcher told = TOLD.matcher(line);
            if (told.matches()) {
                calls.add(told.group(1));
                due.add(Double.valueOf(told.group(2)));
                body.append("got.add((double) ").append(told.group(1)).append(");\n");
            } else {
                check.due("the line tells no answer: " + line, line.contains("//") ? 1 : 0, 0);
                body.append(line).append('\n');
            }
        }
        List<Double> got = answersOf(name, body.toString());
        check.due(name + ": answers", got.size(), due.size());
        for (int i = 0; i < Math.min(got.size(), due.size()); i++) {
            check.dueDouble(name + ": " + calls.get(i), got.get(i), due.get(i));
        }
    }

    private static List<Double> answersOf(String name, String body) throws Exception {
        List<Double> got = new ArrayList<>();
        Optional<ToolProvider> javac = ToolProvider.findFirst("javac");
        Path folder = Files.createTempDirectory("readme");
        try {
            Path source = folder.resolve(name + ".java");
            Files.writeString(source, "public final class " + name + " {\n"
                    + "public static void run(java.util.List<Double> got) {\n" + body + "}\n}\n");
            String classes = Path.of(LoopMemo.class.getProtectionDomain().getCodeSource().getLocation().toURI())
                    .toString();
            int end = javac.isEmpty() ? -1 : javac.get().run(System.out, System.out, "--release", "17", "-cp", classes,
                    "-d", folder.toString(), source.toString());
            check.due(name + " compiles", end, 0);
            if (end == 0) {
                try (URLClassLoader loader = new URLClassLoader(new URL[] {folder.toUri().toURL()},
                        ReadmeTest.class.getClassLoader())) {
                    loader.loadClass(name).getMethod("run", List.class).invoke(null, got);
                }
            }
        } finally {
            remove(folder);
        }
        return got;
    }

    private static void remove(Path folder) throws IOException {
        try (Stream<Path> files = Files.list(folder)) {
            for (Path file : files.toList()) {
                Files.delete(file);
            }
        }
        Files.delete(folder);
    }

    private static void tableOfCalls(String readme) {
        TreeSet<String> face = new TreeSet<>();
        for (Method method : LoopMemo.class.getDeclaredMethods()) {
            if (Modifier.isPublic(method.getModifiers())) {
                face.add(method.getName() + "/" + method.getParameterCount());
            }
        }
        TreeSet<String> told = new TreeSet<>();
        Matcher row = CALL_ROW.matcher(readme);
        while (row.find()) {
            int parameters = row.group(2).isEmpty() ? 0 : row.group(2).split(",").length;
            told.add(row.group(1) + "/" + parameters);
        }
        check.dueText("the table of calls, with the numbers of their arguments", told.toString(), face.toString());
    }

    private static void tableOfTests(String readme) throws IOException {
        TreeSet<String> standing = new TreeSet<>();
        try (Stream<Path> files = Files.list(TESTS)) {
            for (Path file : files.toList()) {
                String name = file.getFileName().toString();
                if (name.endsWith("Test.java")) {
                    standing.add(name.substring(0, name.length() - ".java".length()));
                }
            }
        }
        TreeSet<String> told = new TreeSet<>();
        Matcher row = TEST_ROW.matcher(readme);
        while (row.find()) {
            told.addAll(List.of(row.group(1).split(", ")));
        }
        check.dueText("the table of tests", told.toString(), standing.toString());
    }
}
