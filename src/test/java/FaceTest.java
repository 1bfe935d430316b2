import java.lang.reflect.Constructor;
import java.lang.reflect.Field;
import java.lang.reflect.Method;
import java.lang.reflect.Modifier;
import java.util.Arrays;
import java.util.Set;
import java.util.TreeSet;

/** The class shows the document's face and nothing else. */
public final class FaceTest {
    private static final String[] FACE = {
        "int set(int, int, int)", "int hold(int)", "int start(int, int)", "int queue(int, int)",
        "boolean change(int, int)", "int fare(int, int)", "int bus(int, int)", "int passenger(int, int)",
        "int stop(int, int)", "int count(int)", "int go(int)", "int arrives(int)", "int foresee(int, int)",
        "int advise(int)", "double mean()", "long digest()"};

    public static void main(String[] args) {
        Check check = new Check();
        int kind = BusStage.class.getModifiers();
        check.holds("public and final", Modifier.isPublic(kind) && Modifier.isFinal(kind));
        Constructor<?>[] makers = BusStage.class.getDeclaredConstructors();
        check.same("constructors", makers.length, 1);
        check.holds("the constructor is public and takes nothing",
            Modifier.isPublic(makers[0].getModifiers()) && makers[0].getParameterCount() == 0);
        check.holds("the methods are the document's: " + visibleMethods(),
            visibleMethods().equals(new TreeSet<>(Arrays.asList(FACE))));
        for (Field field : BusStage.class.getDeclaredFields()) {
            check.holds(field.getName() + " is private", Modifier.isPrivate(field.getModifiers()));
        }
        check.finish();
    }

    private static Set<String> visibleMethods() {
        Set<String> found = new TreeSet<>();
        for (Method method : BusStage.class.getDeclaredMethods()) {
            if (!Modifier.isPrivate(method.getModifiers()) && !method.isSynthetic()) {
                found.add(signature(method));
            }
        }
        return found;
    }

    private static String signature(Method method) {
        StringBuilder text = new StringBuilder(method.getReturnType() + " " + method.getName() + "(");
        for (int i = 0; i < method.getParameterCount(); i++) {
            text.append(i == 0 ? "" : ", ").append(method.getParameterTypes()[i]);
        }
        return text.append(")").toString();
    }
}
