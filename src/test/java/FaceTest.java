import java.io.IOException;
import java.lang.reflect.Constructor;
import java.lang.reflect.Field;
import java.lang.reflect.Method;
import java.lang.reflect.Modifier;
import java.nio.file.Files;
import java.nio.file.Path;
import java.util.Arrays;
import java.util.Set;
import java.util.TreeSet;
import java.util.regex.Matcher;
import java.util.regex.Pattern;

/** The face is the document's, and nothing else can be seen from outside (LANGUAGE.md, rules 1, 2, 5 and 11). */
public final class FaceTest {
    private static final Path DOCUMENT = Path.of("../shared/DOC.md");
    private static final Pattern FACE = Pattern.compile("^```java\n(.*?)^```$", Pattern.DOTALL | Pattern.MULTILINE);
    private static final Pattern CONSTANTS_LINE = Pattern.compile("    public static final int (.*);");
    private static final Pattern METHOD_LINE = Pattern.compile("    public (int|double) (\\w+)\\((.*)\\);");
    private static final Set<String> OTHER_LINES =
            Set.of("public final class LoopMemo {", "    public LoopMemo();", "}");

    /** What the document shows, such as "int drop(boolean, int)" and "RULE=1". */
    private static final TreeSet<String> METHODS = new TreeSet<>();
    private static final TreeSet<String> CONSTANTS = new TreeSet<>();
    private static final int MOST_CLASSES = 12;
    private static final int MOST_FIELDS = 20;
    private static final int MOST_PARAMETERS = 7;

    private static final Check check = new Check();

    public static void main(String[] args) throws IllegalAccessException, IOException {
        readDocument();
        face();
        constants();
        nothingElse();
        classesInside();
        check.end();
    }

    private static void readDocument() throws IOException {
        Matcher shown = FACE.matcher(Files.readString(DOCUMENT));
        check.due("the document shows a face", shown.find() ? 1 : 0, 1);
        for (String line : shown.group(1).split("\n")) {
            Matcher constants = CONSTANTS_LINE.matcher(line);
            Matcher method = METHOD_LINE.matcher(line);
            if (constants.matches()) {
                for (String constant : constants.group(1).split(", ")) {
                    CONSTANTS.add(constant.replace(" ", ""));
                }
            } else if (method.matches()) {
                METHODS.add(method.group(1) + " " + method.group(2) + "("
                        + method.group(3).replaceAll(" \\w+(?=,|$)", "") + ")");
            } else {
                check.due("a line of the face that is not understood: " + line, OTHER_LINES.contains(line) ? 1 : 0, 1);
            }
        }
        check.due("the methods that the document shows", METHODS.size(), 25);
        check.due("the constants that it shows", CONSTANTS.size(), 9);
    }

    private static String told(Method method) {
        StringBuilder text = new StringBuilder(method.getReturnType() + " " + method.getName() + "(");
        for (Class<?> type : method.getParameterTypes()) {
            text.append(text.charAt(text.length() - 1) == '(' ? "" : ", ").append(type);
        }
        return text.append(")").toString();
    }

    private static void face() {
        TreeSet<String> found = new TreeSet<>();
        for (Method method : LoopMemo.class.getDeclaredMethods()) {
            if (!Modifier.isPrivate(method.getModifiers())) {
                found.add(told(method));
                check.due(told(method) + " is public and no more", method.getModifiers(), Modifier.PUBLIC);
            }
        }
        check.dueText("the methods", found.toString(), METHODS.toString());
        Constructor<?>[] constructors = LoopMemo.class.getDeclaredConstructors();
        check.due("constructors", constructors.length, 1);
        check.dueText("the constructor", Arrays.toString(constructors), "[public LoopMemo()]");
        check.due("the class is public and final", LoopMemo.class.getModifiers(), Modifier.PUBLIC | Modifier.FINAL);
        check.dueText("its package", LoopMemo.class.getPackageName(), "");
    }

    private static void constants() throws IllegalAccessException {
        TreeSet<String> found = new TreeSet<>();
        for (Field field : LoopMemo.class.getDeclaredFields()) {
            int modifiers = field.getModifiers();
            if (!Modifier.isPrivate(modifiers)) {
                found.add(field.getName() + "=" + field.get(null));
                check.due(field.getName() + " is constant", modifiers,
                        Modifier.PUBLIC | Modifier.STATIC | Modifier.FINAL);
            }
        }
        check.dueText("the constants", found.toString(), CONSTANTS.toString());
    }

    private static void nothingElse() {
        TreeSet<String> names = new TreeSet<>();
        for (String method : METHODS) {
            names.add(method.substring(method.indexOf(' ') + 1, method.indexOf('(')));
        }
        for (Method method : LoopMemo.class.getDeclaredMethods()) {
            if (Modifier.isPrivate(method.getModifiers())) {
                check.due(method.getName() + " bears the name of a public one",
                        names.contains(method.getName()) ? 1 : 0, 0);
            }
        }
        for (Class<?> inside : LoopMemo.class.getDeclaredClasses()) {
            for (Method method : inside.getDeclaredMethods()) {
                check.due(inside.getName() + "." + method.getName() + " bears the name of a public one",
                        names.contains(method.getName()) ? 1 : 0, 0);
            }
        }
    }

    private static void classesInside() {
        Class<?>[] inside = LoopMemo.class.getDeclaredClasses();
        check.due("too many classes", inside.length >= MOST_CLASSES ? 1 : 0, 0);
        lookInto(LoopMemo.class);
        for (Class<?> one : inside) {
            int modifiers = one.getModifiers();
            check.due(one + " is public or protected", modifiers & (Modifier.PUBLIC | Modifier.PROTECTED), 0);
            check.due(one + " is static", modifiers & Modifier.STATIC, Modifier.STATIC);
            lookInto(one);
        }
    }

    private static void lookInto(Class<?> one) {
        int own = 0;
        for (Field field : one.getDeclaredFields()) {
            if (Modifier.isStatic(field.getModifiers())) {
                check.due(field + " is final", field.getModifiers() & Modifier.FINAL, Modifier.FINAL);
            } else {
                own++;
            }
        }
        check.due(one + " has too many fields", own > MOST_FIELDS ? 1 : 0, 0);
        for (Method method : one.getDeclaredMethods()) {
            check.due(method + " has too many parameters", method.getParameterCount() > MOST_PARAMETERS ? 1 : 0, 0);
            check.due(method + " was made by the compiler", method.isSynthetic() ? 1 : 0, 0);
        }
    }
}
