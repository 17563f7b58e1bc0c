import java.lang.reflect.Constructor;
import java.lang.reflect.Field;
import java.lang.reflect.Method;
import java.lang.reflect.Modifier;
import java.util.Set;
import java.util.TreeSet;

/** The class has the document's public face, and nothing else that is not private. */
public final class FaceTest {
    private static int wrong = 0;

    private static void due(String what, Object got, Object want) {
        if (!got.equals(want)) {
            wrong++;
            System.out.println(what + " is " + got + ", due is " + want);
        }
    }

    private static String told(Method method) {
        StringBuilder text = new StringBuilder(Modifier.toString(method.getModifiers()));
        text.append(' ').append(method.getReturnType()).append(' ').append(method.getName());
        for (Class<?> type : method.getParameterTypes()) {
            text.append(' ').append(type);
        }
        return text.toString();
    }

    private static void methods() {
        Set<String> got = new TreeSet<>();
        for (Method method : LineOfKin.class.getDeclaredMethods()) {
            if (!Modifier.isPrivate(method.getModifiers()) && !method.isSynthetic()) {
                got.add(told(method));
            }
        }
        Set<String> want = new TreeSet<>();
        String[] face = {"device int int", "call int int int int", "every int int int",
            "feed int int", "link int int", "pass int int", "able int int", "chain int", "ran",
            "state int int", "size int", "status"};
        for (String method : face) {
            want.add("public int " + method);
        }
        due("the methods", got, want);
    }

    private static void fields() {
        Set<String> got = new TreeSet<>();
        for (Field field : LineOfKin.class.getDeclaredFields()) {
            if (!Modifier.isPrivate(field.getModifiers()) && !field.isSynthetic()) {
                got.add(Modifier.toString(field.getModifiers()) + " " + field.getType() + " "
                        + field.getName());
            }
        }
        due("the constants", got, Set.of("public static final int NONE"));
    }

    public static void main(String[] args) {
        due("the class", Modifier.toString(LineOfKin.class.getModifiers()), "public final");
        Constructor<?>[] makers = LineOfKin.class.getDeclaredConstructors();
        due("how many constructors", makers.length, 1);
        due("the constructor", Modifier.toString(makers[0].getModifiers()), "public");
        due("its parameters", makers[0].getParameterCount(), 0);
        methods();
        fields();
        System.out.println(wrong == 0 ? "all answers are as due" : wrong + " answers are not as due");
        if (wrong != 0) {
            System.exit(1);
        }
    }
}
