import java.io.IOException;
import java.nio.file.Files;
import java.nio.file.Path;
import java.util.ArrayDeque;
import java.util.Deque;
import java.util.Set;
import java.util.regex.Matcher;
import java.util.regex.Pattern;

/** What can be told of LANGUAGE.md by the words of the program: rules 1, 3, 4, 6, 9, 10, 11 and 13. */
public final class LanguageTest {
    private static final Path SOURCE = Path.of("src/main/java/LoopMemo.java");
    private static final int MOST_LINES = 60;
    /** Words that the rules forbid, or that this program has no need of. */
    private static final Set<String> UNWANTED = Set.of(
            "package", "import", "try", "catch", "finally", "throw", "throws", "synchronized", "assert", "instanceof",
            "Object", "Thread", "Random", "Class", "File", "Runtime", "Exception", "Integer", "Long", "List", "Arrays",
            "var", "yield", "record", "sealed", "native", "volatile", "transient", "strictfp", "protected");
    private static final Set<String> OF_MATH = Set.of("max", "min", "abs", "bitCount", "floorDiv", "floorMod");
    private static final Set<String> OF_SYSTEM = Set.of("arraycopy");

    private static final Check check = new Check();

    public static void main(String[] args) throws IOException {
        String source = Files.readString(SOURCE);
        onlyPlainCharacters(source);
        String code = withoutCommentsAndTexts(source);
        words(code);
        library(code);
        signs(code);
        loops(code);
        lengths(code);
        check.end();
    }

    private static void onlyPlainCharacters(String source) {
        for (int i = 0; i < source.length(); i++) {
            char c = source.charAt(i);
            if (c > 126 || c < 32 && c != '\n') {
                check.due("the character at " + i + " is a plain one", c, 0);
            }
        }
    }

    /** Lines stay where they are. */
    private static String withoutCommentsAndTexts(String source) {
        Pattern hidden = Pattern.compile("/\\*.*?\\*/|//[^\n]*|\"(\\\\.|[^\"\\\\\n])*\"|'(\\\\.|[^'\\\\\n])'",
                Pattern.DOTALL);
        return hidden.matcher(source).replaceAll(found -> found.group().replaceAll("[^\n]", " "));
    }

    private static void words(String code) {
        Matcher word = Pattern.compile("[A-Za-z_]\\w*").matcher(code);
        while (word.find()) {
            check.due("the program holds '" + word.group() + "'", UNWANTED.contains(word.group()) ? 1 : 0, 0);
        }
    }

    private static void library(String code) {
        Matcher call = Pattern.compile("\\b(Math|System|String|StringBuilder)\\b(\\s*\\.\\s*(\\w+))?").matcher(code);
        while (call.find()) {
            String name = call.group(3) == null ? "" : call.group(3);
            boolean listed = call.group(1).equals("Math") ? OF_MATH.contains(name)
                    : call.group(1).equals("System") && OF_SYSTEM.contains(name);
            check.due("the program uses " + call.group(), listed ? 0 : 1, 0);
        }
    }

    private static void signs(String code) {
        String[] unwanted = {"->", "::", "@", "[][][]", "\"", "..."};
        for (String sign : unwanted) {
            check.due("the program holds " + sign, code.contains(sign) ? 1 : 0, 0);
        }
        int depth = 0;
        for (int i = 0; i < code.length(); i++) {
            depth += code.charAt(i) == '{' ? 1 : code.charAt(i) == '}' ? -1 : 0;
        }
        check.due("open braces at the end", depth, 0);
    }

    /** Rule 9: no loop without a condition of its own. */
    private static void loops(String code) {
        String[] endless = {"while\\s*\\(\\s*true", "for\\s*\\(\\s*;", "for\\s*\\([^;]*;\\s*;"};
        for (String pattern : endless) {
            check.due("the program holds " + pattern, Pattern.compile(pattern).matcher(code).find() ? 1 : 0, 0);
        }
    }

    /** A block that opens behind ')' and is not that of an if, a loop or a switch is a method's. */
    private static void lengths(String code) {
        Pattern notMethod = Pattern.compile("\\b(if|for|while|switch|else|do)\\b");
        String[] lines = code.split("\n", -1);
        Deque<Integer> open = new ArrayDeque<>();
        Deque<Boolean> isMethod = new ArrayDeque<>();
        int methods = 0;
        for (int line = 0; line < lines.length; line++) {
            for (char c : lines[line].toCharArray()) {
                if (c == '{') {
                    open.push(line);
                    isMethod.push(lines[line].contains(") {") && !notMethod.matcher(lines[line]).find());
                } else if (c == '}') {
                    int length = line - open.pop() + 1;
                    if (isMethod.pop()) {
                        methods++;
                        check.due("the method that ends in line " + (line + 1) + " is too long",
                                length > MOST_LINES ? 1 : 0, 0);
                    }
                }
            }
            check.due("line " + (line + 1) + " is too wide", lines[line].length() > 120 ? 1 : 0, 0);
        }
        check.due("few methods were found", methods < 60 ? 1 : 0, 0);
    }
}
