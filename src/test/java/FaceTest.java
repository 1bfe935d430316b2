import java.lang.reflect.Constructor;
import java.lang.reflect.Field;
import java.lang.reflect.Method;
import java.lang.reflect.Modifier;
import java.util.Arrays;
import java.util.Set;
import java.util.TreeSet;

/** The class shows the document's face and nothing else. */
public final class FaceTest {
    private static final String INDEX = " throws IndexOutOfBoundsException";
    private static final String ARGUMENT = " throws IllegalArgumentException";
    private static final String[] FACE = {
        "int set(int, int, int)" + INDEX + ARGUMENT,
        "int hold(int)" + ARGUMENT,
        "int start(int, int)" + INDEX + ARGUMENT + " throws IllegalStateException",
        "int queue(int, int)" + INDEX + ARGUMENT + " throws IllegalStateException",
        "boolean change(int, int)" + INDEX + " throws IllegalStateException",
        "int fare(int, int)" + INDEX, "int bus(int, int)" + INDEX, "int passenger(int, int)" + INDEX,
        "int stop(int, int)" + INDEX, "int count(int)" + INDEX,
        "int go(int)" + ARGUMENT,
        "int arrives(int)" + INDEX, "int foresee(int, int)" + ARGUMENT + INDEX, "int advise(int)" + ARGUMENT,
        "double mean()", "long digest()"};

    public static void main(String[] args) {
        Check check = new Check();
        int kind = BusStage.class.getModifiers();
        check.holds("public and final", Modifier.isPublic(kind) && Modifier.isFinal(kind));
        Constructor<?>[] makers = BusStage.class.getDeclaredConstructors();
        check.same("constructors", makers.length, 1);
        check.holds("the constructor is public, takes nothing and throws nothing",
            Modifier.isPublic(makers[0].getModifiers()) && makers[0].getParameterCount() == 0
                && makers[0].getExceptionTypes().length == 0);
        check.holds("the methods are the document's: " + visibleMethods(),
            visibleMethods().equals(new TreeSet<>(Arrays.asList(FACE))));
        for (Field field : BusStage.class.getDeclaredFields()) {
            check.holds(field.getName() + " is private", Modifier.isPrivate(field.getModifiers()));
        }
        for (Class<?> inside : BusStage.class.getDeclaredClasses()) {
            int inner = inside.getModifiers();
            check.holds(inside.getName() + " is not of the face",
                !Modifier.isPublic(inner) && !Modifier.isProtected(inner));
        }
        check.finish();
    }

    private static Set<String> visibleMethods() {
        Set<String> found = new TreeSet<>();
        for (Method method : BusStage.class.getDeclaredMethods()) {
            if (Modifier.isPublic(method.getModifiers()) && !Modifier.isStatic(method.getModifiers())) {
                found.add(signature(method));
            } else if (!Modifier.isPrivate(method.getModifiers()) && !method.isSynthetic()) {
                found.add("not in the face: " + signature(method));
            }
        }
        return found;
    }

    private static String signature(Method method) {
        StringBuilder text = new StringBuilder(method.getReturnType() + " " + method.getName() + "(");
        for (int i = 0; i < method.getParameterCount(); i++) {
            text.append(i == 0 ? "" : ", ").append(method.getParameterTypes()[i]);
        }
        text.append(")");
        for (Class<?> thrown : method.getExceptionTypes()) {
            text.append(" throws ").append(thrown.getSimpleName());
        }
        return text.toString();
    }
}
