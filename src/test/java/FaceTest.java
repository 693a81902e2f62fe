import java.lang.reflect.Constructor;
import java.lang.reflect.Field;
import java.lang.reflect.Method;
import java.lang.reflect.Modifier;
import java.util.Arrays;
import java.util.TreeSet;

/** The class has the public face of the document, no other member that can be seen, and no private namesakes. */
public final class FaceTest {
    private static final String[] METHODS = {
        "boolean constant(int, int)", "boolean variable(int, int)", "boolean combine(int, int, int, int)",
        "boolean choose(int, int, int, int)", "boolean fix(int, int, int, int)", "boolean exists(int, int, int, int)",
        "boolean substitute(int, int, int)", "boolean nearest(int, int, int)", "boolean image(int, int, int, int)",
        "int forks(int)", "int ones(int)", "int least(int)", "int at(int, int)", "boolean same(int, int)"
    };

    public static void main(String[] args) throws ReflectiveOperationException {
        Checks checks = new Checks();
        checks.due("the class's modifiers", ForkDesk.class.getModifiers(), Modifier.PUBLIC | Modifier.FINAL);
        checks.due("constructors", seenConstructors(), "(int)");
        checks.due("methods", seenMethods(), new TreeSet<>(Arrays.asList(METHODS)).toString());
        checks.due("private methods with a public one's name", hiddenNamesakes(), "[]");
        checks.due("fields", seenFields(), "int NONE;");
        int constant = Modifier.PUBLIC | Modifier.STATIC | Modifier.FINAL;
        checks.due("the modifiers of NONE", ForkDesk.class.getField("NONE").getModifiers(), constant);
        checks.due("NONE", ForkDesk.NONE, -1);
        for (Class<?> inside : ForkDesk.class.getDeclaredClasses()) {
            checks.due(inside + " is static", Modifier.isStatic(inside.getModifiers()), true);
        }
        checks.end();
    }

    private static String seenConstructors() {
        StringBuilder text = new StringBuilder();
        for (Constructor<?> made : ForkDesk.class.getDeclaredConstructors()) {
            text.append(Modifier.isPrivate(made.getModifiers()) ? "" : parameters(made.getParameterTypes()));
        }
        return text.toString();
    }

    private static String seenMethods() {
        TreeSet<String> seen = new TreeSet<>();
        for (Method method : ForkDesk.class.getDeclaredMethods()) {
            if (!Modifier.isPrivate(method.getModifiers())) {
                seen.add(method.getReturnType() + " " + method.getName() + parameters(method.getParameterTypes()));
            }
        }
        return seen.toString();
    }

    private static String hiddenNamesakes() {
        TreeSet<String> hidden = new TreeSet<>();
        TreeSet<String> seen = new TreeSet<>();
        for (Method method : ForkDesk.class.getDeclaredMethods()) {
            (Modifier.isPrivate(method.getModifiers()) ? hidden : seen).add(method.getName());
        }
        hidden.retainAll(seen);
        return hidden.toString();
    }

    private static String seenFields() {
        StringBuilder text = new StringBuilder();
        for (Field field : ForkDesk.class.getDeclaredFields()) {
            if (!Modifier.isPrivate(field.getModifiers())) {
                text.append(field.getType()).append(' ').append(field.getName()).append(';');
            }
        }
        return text.toString();
    }

    private static String parameters(Class<?>[] types) {
        StringBuilder text = new StringBuilder();
        for (Class<?> type : types) {
            text.append(text.length() == 0 ? "" : ", ").append(type);
        }
        return "(" + text + ")";
    }
}
