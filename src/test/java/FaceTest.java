import java.lang.reflect.Constructor;
import java.lang.reflect.Field;
import java.lang.reflect.Method;
import java.lang.reflect.Modifier;
import java.util.ArrayList;
import java.util.Arrays;
import java.util.List;
import java.util.Set;
import java.util.TreeSet;

/** The class has the document's face, and no other member that is not private. */
public final class FaceTest {
    private static final List<String> METHODS = List.of(
        "boolean type(int)",
        "void wipe()",
        "int length()",
        "void compile(int, boolean) throws IllegalArgumentException",
        "void rules(boolean) throws IllegalArgumentException",
        "int fault()",
        "void number(int, long, int) throws IllegalArgumentException, IllegalStateException",
        "void word(int, int) throws IllegalArgumentException, IllegalStateException",
        "boolean drop(int)",
        "int category(boolean, long, int) throws IllegalArgumentException",
        "int format(int, boolean) throws IllegalArgumentException, NoSuchElementException, "
            + "IllegalStateException, UnsupportedOperationException",
        "int size()",
        "int out(int)");

    public static void main(String[] args) {
        Class<?> type = PluralMessages.class;
        Probe.due("the class", Modifier.toString(type.getModifiers()), "public final");
        constructors(type);
        fields(type);
        methods(type);
        for (Class<?> inside : type.getDeclaredClasses()) {
            int modifiers = inside.getModifiers();
            Probe.due(inside + " is static", Modifier.isStatic(modifiers), true);
            Probe.due(inside + " is hidden", Modifier.isPublic(modifiers)
                || Modifier.isProtected(modifiers), false);
        }
        Probe.finish();
    }

    private static void constructors(Class<?> type) {
        Constructor<?>[] all = type.getDeclaredConstructors();
        Probe.due("the constructors", all.length, 1);
        Probe.due("the constructor's parameters", all[0].getParameterCount(), 0);
        Probe.due("the constructor", Modifier.toString(all[0].getModifiers()), "public");
    }

    private static void fields(Class<?> type) {
        Probe.due("NONE", PluralMessages.NONE, -1);
        for (Field field : type.getDeclaredFields()) {
            boolean isFace = field.getName().equals("NONE") && field.getType() == int.class;
            String modifiers = Modifier.toString(field.getModifiers());
            Probe.due(field + " is of the face", modifiers.equals("public static final"), isFace);
            Probe.due(field + " is private", Modifier.isPrivate(field.getModifiers()), !isFace);
        }
    }

    private static void methods(Class<?> type) {
        Set<String> visible = new TreeSet<>();
        Set<String> names = new TreeSet<>();
        List<Method> hidden = new ArrayList<>();
        for (Method method : type.getDeclaredMethods()) {
            if (Modifier.isPrivate(method.getModifiers())) {
                hidden.add(method);
            } else {
                Probe.due(method.toString(), Modifier.toString(method.getModifiers()), "public");
                visible.add(written(method));
                names.add(method.getName());
            }
        }
        Probe.due("the methods", visible, new TreeSet<>(METHODS));
        for (Class<?> inside : type.getDeclaredClasses()) {
            hidden.addAll(Arrays.asList(inside.getDeclaredMethods()));
        }
        for (Method method : hidden) {
            Probe.due(method + " has a public name", names.contains(method.getName()), false);
        }
    }

    private static String written(Method method) {
        String parameters = simpleNames(method.getParameterTypes());
        String exceptions = simpleNames(method.getExceptionTypes());
        return method.getReturnType().getSimpleName() + " " + method.getName() + "(" + parameters
            + ")" + (exceptions.isEmpty() ? "" : " throws " + exceptions);
    }

    private static String simpleNames(Class<?>[] types) {
        List<String> names = new ArrayList<>();
        for (Class<?> type : types) {
            names.add(type.getSimpleName());
        }
        return String.join(", ", names);
    }
}
