import java.lang.reflect.Constructor;
import java.lang.reflect.Field;
import java.lang.reflect.Method;
import java.lang.reflect.Modifier;
import java.util.Set;
import java.util.TreeSet;

/** The class shows the document's face and nothing else. */
public final class FaceTest {
    private static final Due DUE = new Due();
    private static final String UNKNOWN = "IllegalArgumentException ";
    private static final String OUTSIDE = "IndexOutOfBoundsException ";
    private static final String STATE = "IllegalStateException ";
    private static final String ROOM = "UnsupportedOperationException ";

    public static void main(String[] args) {
        Set<String> want = new TreeSet<>(Set.of(
                "int sign long int : " + OUTSIDE + ROOM,
                "int read : " + STATE + ROOM,
                "int place : ",
                "int piece int int : " + UNKNOWN + OUTSIDE,
                "int speed int int : " + UNKNOWN + OUTSIDE,
                "int name int int : " + UNKNOWN + OUTSIDE,
                "boolean barred int int int : " + OUTSIDE));
        want.addAll(Set.of(
                "int clear : ",
                "int spot int boolean : " + UNKNOWN,
                "int along int boolean : " + UNKNOWN,
                "int check : ",
                "int fault int int : " + UNKNOWN + OUTSIDE,
                "int print : ",
                "int at int : " + OUTSIDE,
                "int count int : " + OUTSIDE));
        Set<String> got = new TreeSet<>();
        for (Method method : StreetGraph.class.getDeclaredMethods()) {
            if (!method.isSynthetic() && !Modifier.isPrivate(method.getModifiers())) {
                got.add(told(method));
            }
        }
        DUE.same("the methods", got, want);
        for (Field field : StreetGraph.class.getDeclaredFields()) {
            DUE.same("private " + field.getName(), Modifier.isPrivate(field.getModifiers()), true);
        }
        Constructor<?>[] constructors = StreetGraph.class.getDeclaredConstructors();
        DUE.same("constructors", constructors.length, 1);
        DUE.same("its parameters", constructors[0].getParameterCount(), 0);
        DUE.same("public", Modifier.isPublic(constructors[0].getModifiers()), true);
        DUE.same("public and final", StreetGraph.class.getModifiers(), Modifier.PUBLIC | Modifier.FINAL);
        DUE.finish();
    }

    private static String told(Method method) {
        StringBuilder text = new StringBuilder(method.getReturnType().getSimpleName());
        text.append(' ').append(method.getName()).append(' ');
        for (Class<?> type : method.getParameterTypes()) {
            text.append(type.getSimpleName()).append(' ');
        }
        text.append(": ");
        for (Class<?> type : method.getExceptionTypes()) {
            text.append(type.getSimpleName()).append(' ');
        }
        return text.toString();
    }
}
