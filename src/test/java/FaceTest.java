import java.lang.reflect.Constructor;
import java.lang.reflect.Field;
import java.lang.reflect.Method;
import java.lang.reflect.Modifier;
import java.util.ArrayList;
import java.util.List;
import java.util.TreeSet;

/** The public face: the class, its constructor and its methods, with their throws clauses, and nothing else. */
public final class FaceTest {
    private static final String INDEX = " throws IndexOutOfBoundsException";
    private static final String ARGUMENT = INDEX + " IllegalArgumentException";
    private static final String STATE = INDEX + " IllegalStateException";
    private static final String ALL = ARGUMENT + " IllegalStateException";

    private static final String[] FACE = {
        "int edit(int int int int)" + ALL,
        "int delete(int int int)" + STATE,
        "int setDepth(int int)" + ARGUMENT,
        "int wipe(int)" + INDEX,
        "int replicate(int int int)" + ARGUMENT,
        "int pending(int int)" + ARGUMENT,
        "int checkpoint(int int)" + ARGUMENT,
        "int revisions()",
        "int documentOf(int)" + INDEX,
        "int parentOf(int)" + INDEX,
        "int generation(int)" + INDEX,
        "int sum(int)" + INDEX,
        "int valueOf(int)" + INDEX,
        "int sequence(int)" + INDEX,
        "boolean has(int int)" + INDEX,
        "boolean isLeaf(int int)" + INDEX,
        "int size(int)" + INDEX,
        "int winner(int int)" + INDEX,
        "int winnerOfAll(int)" + INDEX,
        "int conflicts(int int)" + INDEX,
        "int count(int int int)" + INDEX,
        "int viewAt(int int)" + INDEX,
    };

    public static void main(String[] args) {
        Check check = new Check("FaceTest");
        Class<?> face = RevisionStores.class;
        check.due("class modifiers", Modifier.toString(face.getModifiers()), "public final");
        check.due("package", face.getPackageName(), "");
        check.due("superclass", face.getSuperclass().getName(), "java.lang.Object");
        check.due("interfaces", face.getInterfaces().length, 0);

        TreeSet<String> names = new TreeSet<>();
        TreeSet<String> found = new TreeSet<>();
        for (Method method : face.getDeclaredMethods()) {
            if (Modifier.isPublic(method.getModifiers())) {
                found.add(row(method));
                names.add(method.getName());
                check.due(method.getName() + " modifiers", Modifier.toString(method.getModifiers()), "public");
            }
        }
        check.due("public methods", String.join("\n", found), String.join("\n", new TreeSet<>(List.of(FACE))));
        for (Method method : face.getDeclaredMethods()) {
            if (!Modifier.isPublic(method.getModifiers())) {
                check.due(method.getName() + " is private", Modifier.isPrivate(method.getModifiers()), true);
                check.due(method.getName() + " bears a public name", names.contains(method.getName()), false);
            }
        }
        for (Field field : face.getDeclaredFields()) {
            check.due(field.getName() + " is private", Modifier.isPrivate(field.getModifiers()), true);
        }
        Constructor<?>[] constructors = face.getDeclaredConstructors();
        check.due("constructors", constructors.length, 1);
        check.due("constructor modifiers", Modifier.toString(constructors[0].getModifiers()), "public");
        check.due("constructor parameters", constructors[0].getParameterCount(), 0);
        check.end();
    }

    private static String row(Method method) {
        List<String> parameters = new ArrayList<>();
        for (Class<?> type : method.getParameterTypes()) {
            parameters.add(type.getName());
        }
        StringBuilder row = new StringBuilder(method.getReturnType().getName());
        row.append(' ').append(method.getName()).append('(').append(String.join(" ", parameters)).append(')');
        Class<?>[] thrown = method.getExceptionTypes();
        for (int i = 0; i < thrown.length; i++) {
            row.append(i == 0 ? " throws " : " ").append(thrown[i].getSimpleName());
        }
        return row.toString();
    }
}
