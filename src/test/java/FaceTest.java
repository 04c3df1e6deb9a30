import java.lang.reflect.Constructor;
import java.lang.reflect.Field;
import java.lang.reflect.Method;
import java.lang.reflect.Modifier;
import java.util.Arrays;
import java.util.Set;
import java.util.TreeSet;

/** The public face, and the rules of the language that can be read off the class. */
public final class FaceTest {
    private static final String ARGUMENT = " IllegalArgumentException";
    private static final String STATE = " IllegalStateException";
    private static final String ELEMENT = " NoSuchElementException";

    private static final Set<String> FACE = new TreeSet<>(Arrays.asList(
            "int klass(int)" + ARGUMENT + STATE,
            "int generic(int)" + ARGUMENT + STATE,
            "int method(int)" + ARGUMENT + STATE,
            "int atom(int,int,int,int,boolean)" + ARGUMENT + STATE,
            "int operation(int,int,int)" + ARGUMENT + STATE,
            "boolean beyond(int,int)" + ARGUMENT,
            "int best(int,int,int)" + ARGUMENT,
            "int check(int)" + ARGUMENT,
            "int witness(int)" + ELEMENT,
            "int compile(int)" + ARGUMENT + STATE,
            "int node(int,int,int)" + ARGUMENT + STATE + ELEMENT,
            "int test(int,int,int)" + ARGUMENT + STATE + ELEMENT,
            "int run(int,int,int,int)" + ARGUMENT,
            "int left()",
            "int tests()"));

    public static void main(String[] args) {
        Class<?> desk = DispatchDesk.class;
        Due.compare("the class", "public final", Modifier.toString(desk.getModifiers()));
        methods(desk);
        constructors(desk);
        for (Field field : desk.getDeclaredFields()) {
            Due.yes("private: " + field.getName(), Modifier.isPrivate(field.getModifiers()));
        }
        staticsAreFinal(desk);
        for (Class<?> inside : desk.getDeclaredClasses()) {
            Due.yes("static: " + inside, Modifier.isStatic(inside.getModifiers()));
            Due.no("public: " + inside, Modifier.isPublic(inside.getModifiers()));
            staticsAreFinal(inside);
            Due.yes("some twenty fields: " + inside, inside.getDeclaredFields().length <= 20);
        }
        Due.yes("some twelve classes", 1 + desk.getDeclaredClasses().length <= 12);
        Due.end();
    }

    private static void methods(Class<?> desk) {
        Set<String> open = new TreeSet<>();
        Set<String> openNames = new TreeSet<>();
        for (Method method : desk.getDeclaredMethods()) {
            if (!Modifier.isPrivate(method.getModifiers())) {
                Due.yes("public: " + method, Modifier.isPublic(method.getModifiers()));
                open.add(line(method));
                openNames.add(method.getName());
            }
        }
        Due.compare("the methods", FACE.toString(), open.toString());
        for (Method method : desk.getDeclaredMethods()) {
            if (Modifier.isPrivate(method.getModifiers())) {
                Due.no("a public name: " + method, openNames.contains(method.getName()));
            }
        }
    }

    private static String line(Method method) {
        StringBuilder text = new StringBuilder(method.getReturnType() + " " + method.getName() + "(");
        String comma = "";
        for (Class<?> type : method.getParameterTypes()) {
            text.append(comma).append(type);
            comma = ",";
        }
        text.append(")");
        for (Class<?> type : method.getExceptionTypes()) {
            text.append(" ").append(type.getSimpleName());
        }
        return text.toString();
    }

    private static void constructors(Class<?> desk) {
        Constructor<?>[] all = desk.getDeclaredConstructors();
        Due.is("one constructor", 1, () -> all.length);
        Due.yes("public", Modifier.isPublic(all[0].getModifiers()));
        Due.is("without parameters", 0, () -> all[0].getParameterCount());
    }

    private static void staticsAreFinal(Class<?> type) {
        for (Field field : type.getDeclaredFields()) {
            boolean isStatic = Modifier.isStatic(field.getModifiers());
            Due.yes("final: " + field, !isStatic || Modifier.isFinal(field.getModifiers()));
        }
    }
}
