import java.io.PrintWriter;
import java.io.StringWriter;
import java.nio.file.Path;
import java.util.ArrayList;
import java.util.List;
import java.util.Map;
import java.util.Optional;
import java.util.TreeMap;
import java.util.TreeSet;
import java.util.regex.Matcher;
import java.util.regex.Pattern;
import java.util.spi.ToolProvider;

/** LANGUAGE.md, rules 8 and 11: no method calls itself, and calls go at most eight deep. */
public final class DepthTest {
    private static final int DEEPEST = 8;
    private static final int MOST_METHODS = 500;
    private static final Pattern METHOD = Pattern.compile("^  (?! ).*?([\\w$.]+)\\(.*\\);$");
    private static final Pattern CALL = Pattern.compile("invoke\\w+ .*// Method (.*?):\\(");

    private static final Check check = new Check();
    private static final Map<String, TreeSet<String>> calls = new TreeMap<>();

    public static void main(String[] args) throws Exception {
        Optional<ToolProvider> javap = ToolProvider.findFirst("javap");
        if (javap.isEmpty()) {
            System.out.println("this Java has no javap: the depth of the calls is not looked at");
            return;
        }
        Path folder = Path.of(LoopMemo.class.getProtectionDomain().getCodeSource().getLocation().toURI());
        read(javap.get(), folder, "LoopMemo");
        for (Class<?> inside : LoopMemo.class.getDeclaredClasses()) {
            read(javap.get(), folder, inside.getName());
        }
        check.due("few methods were read", calls.size() < 60 ? 1 : 0, 0);
        for (String method : calls.keySet()) {
            List<String> deepest = deepest(method, new ArrayList<>());
            check.due(deepest + " is too deep", deepest.size() > DEEPEST ? 1 : 0, 0);
        }
        check.end();
    }

    private static void read(ToolProvider javap, Path folder, String name) {
        StringWriter text = new StringWriter();
        PrintWriter out = new PrintWriter(text);
        javap.run(out, out, "-p", "-c", folder.resolve(name + ".class").toString());
        String method = "";
        for (String line : text.toString().split("\\R")) {
            Matcher head = METHOD.matcher(line);
            Matcher call = CALL.matcher(line);
            if (head.find()) {
                method = name + "." + (head.group(1).equals(name) ? "<init>" : head.group(1));
                calls.put(method, new TreeSet<>());
            } else if (call.find() && !method.isEmpty()) {
                String called = call.group(1).replace("\"", "");
                calls.get(method).add(called.contains(".") ? called : name + "." + called);
            }
        }
    }

    private static List<String> deepest(String method, List<String> above) {
        check.due(above + " comes back to " + method, above.contains(method) ? 1 : 0, 0);
        List<String> best = List.of();
        List<String> here = new ArrayList<>(above);
        here.add(method);
        if (above.contains(method) || here.size() > MOST_METHODS) {
            return List.of(method);
        }
        for (String called : calls.get(method)) {
            if (calls.containsKey(called)) {
                List<String> below = deepest(called, here);
                best = below.size() > best.size() ? below : best;
            }
        }
        List<String> all = new ArrayList<>(List.of(method));
        all.addAll(best);
        return all;
    }
}
