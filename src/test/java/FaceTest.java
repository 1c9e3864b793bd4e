import java.lang.reflect.Constructor;
import java.lang.reflect.Field;
import java.lang.reflect.Method;
import java.lang.reflect.Modifier;
import java.util.Arrays;
import java.util.List;
import java.util.TreeSet;

/** The face is the document's, and nothing else can be seen from outside (LANGUAGE.md, rules 1, 2, 5 and 11). */
public final class FaceTest {
    private static final List<String> METHODS = List.of(
            "int add(boolean, int, int)", "int drop(boolean, int)", "int change(int, int, int)", "int step(int)",
            "int again()", "int forget()", "int set(int, int)", "int append(int)", "int clear()", "int fault(int)",
            "int fill(boolean)", "int carryOut()", "int why(int)", "int row(boolean, int, int)",
            "int answer(int, int)", "int remembered(int, int)", "int count(int)", "int total(int)", "double rate()",
            "int ifBound(int, int)", "int ifOrdered(int)", "int leastBound()", "int undo()", "int save()",
            "int restore()");
    private static final List<String> CONSTANTS = List.of(
            "INVALID_ARGUMENT=-1", "NOT_POSSIBLE=-2", "LIMIT_REACHED=-3", "NOT_FOUND=-4", "BOUND=0", "RULE=1",
            "KEEPING=2", "LOW=3", "HIGH=4");
    private static final int MOST_CLASSES = 12;
    private static final int MOST_FIELDS = 20;
    private static final int MOST_PARAMETERS = 7;

    private static final Check check = new Check();

    public static void main(String[] args) throws IllegalAccessException {
        face();
        constants();
        nothingElse();
        classesInside();
        check.end();
    }

    private static String told(Method method) {
        StringBuilder text = new StringBuilder(method.getReturnType() + " " + method.getName() + "(");
        for (Class<?> type : method.getParameterTypes()) {
            text.append(text.charAt(text.length() - 1) == '(' ? "" : ", ").append(type);
        }
        return text.append(")").toString();
    }

    private static void face() {
        TreeSet<String> found = new TreeSet<>();
        for (Method method : LoopMemo.class.getDeclaredMethods()) {
            if (!Modifier.isPrivate(method.getModifiers())) {
                found.add(told(method));
                check.due(told(method) + " is public and no more", method.getModifiers(), Modifier.PUBLIC);
            }
        }
        check.dueText("the methods", found.toString(), new TreeSet<>(METHODS).toString());
        Constructor<?>[] constructors = LoopMemo.class.getDeclaredConstructors();
        check.due("constructors", constructors.length, 1);
        check.dueText("the constructor", Arrays.toString(constructors), "[public LoopMemo()]");
        check.due("the class is public and final", LoopMemo.class.getModifiers(), Modifier.PUBLIC | Modifier.FINAL);
        check.dueText("its package", LoopMemo.class.getPackageName(), "");
    }

    private static void constants() throws IllegalAccessException {
        TreeSet<String> found = new TreeSet<>();
        for (Field field : LoopMemo.class.getDeclaredFields()) {
            int modifiers = field.getModifiers();
            if (!Modifier.isPrivate(modifiers)) {
                found.add(field.getName() + "=" + field.get(null));
                check.due(field.getName() + " is constant", modifiers,
                        Modifier.PUBLIC | Modifier.STATIC | Modifier.FINAL);
            }
        }
        check.dueText("the constants", found.toString(), new TreeSet<>(CONSTANTS).toString());
    }

    private static void nothingElse() {
        TreeSet<String> names = new TreeSet<>();
        for (String method : METHODS) {
            names.add(method.substring(method.indexOf(' ') + 1, method.indexOf('(')));
        }
        for (Method method : LoopMemo.class.getDeclaredMethods()) {
            if (Modifier.isPrivate(method.getModifiers())) {
                check.due(method.getName() + " bears the name of a public one",
                        names.contains(method.getName()) ? 1 : 0, 0);
            }
        }
        for (Class<?> inside : LoopMemo.class.getDeclaredClasses()) {
            for (Method method : inside.getDeclaredMethods()) {
                check.due(inside.getName() + "." + method.getName() + " bears the name of a public one",
                        names.contains(method.getName()) ? 1 : 0, 0);
            }
        }
    }

    private static void classesInside() {
        Class<?>[] inside = LoopMemo.class.getDeclaredClasses();
        check.due("too many classes", inside.length >= MOST_CLASSES ? 1 : 0, 0);
        lookInto(LoopMemo.class);
        for (Class<?> one : inside) {
            int modifiers = one.getModifiers();
            check.due(one + " is public or protected", modifiers & (Modifier.PUBLIC | Modifier.PROTECTED), 0);
            check.due(one + " is static", modifiers & Modifier.STATIC, Modifier.STATIC);
            lookInto(one);
        }
    }

    private static void lookInto(Class<?> one) {
        int own = 0;
        for (Field field : one.getDeclaredFields()) {
            if (Modifier.isStatic(field.getModifiers())) {
                check.due(field + " is final", field.getModifiers() & Modifier.FINAL, Modifier.FINAL);
            } else {
                own++;
            }
        }
        check.due(one + " has too many fields", own > MOST_FIELDS ? 1 : 0, 0);
        for (Method method : one.getDeclaredMethods()) {
            check.due(method + " has too many parameters", method.getParameterCount() > MOST_PARAMETERS ? 1 : 0, 0);
            check.due(method + " was made by the compiler", method.isSynthetic() ? 1 : 0, 0);
        }
    }
}
