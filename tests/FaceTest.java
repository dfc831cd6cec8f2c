import java.lang.reflect.Field;
import java.lang.reflect.Method;
import java.lang.reflect.Modifier;
import java.util.Set;
import java.util.TreeSet;

/** The document's public face: its constants, its constructor, its methods, and no other member that is not private. */
public final class FaceTest {
    private static final Set<String> METHODS = Set.of("int sheet int int int", "int lay int int long",
        "int copy int int int int int", "int holds int int long", "int read int int int int int", "int urn int",
        "int put int int int", "int add int int int int", "int is int int int", "int about int int",
        "int added int int int", "int draw int int", "int seed int", "int drawn int", "int shake int int", "int undo",
        "int chance int int int", "int times int int int int", "int left int int int int", "int stuck int int",
        "int mean int int int int", "int told int int int int int", "int share int int int", "int free int int",
        "long part int", "int count int");
    private static final Set<String> CONSTANTS =
        Set.of("BAD -1", "NO -2", "FULL -3", "NONE -4", "STUCK -5", "BIG -6");

    private static int wrong = 0;

    private static void due(String what, boolean holds) {
        if (!holds) {
            wrong++;
            System.out.println("not so: " + what);
        }
    }

    private static String told(Method method) {
        StringBuilder words = new StringBuilder(method.getReturnType() + " " + method.getName());
        for (Class<?> type : method.getParameterTypes()) {
            words.append(' ').append(type);
        }
        return words.toString();
    }

    private static void methods(Class<?> face) {
        Set<String> open = new TreeSet<>();
        Set<String> names = new TreeSet<>();
        for (Method method : face.getDeclaredMethods()) {
            if (!Modifier.isPrivate(method.getModifiers())) {
                due(method + " is public and of an object", Modifier.isPublic(method.getModifiers())
                    && !Modifier.isStatic(method.getModifiers()));
                open.add(told(method));
                names.add(method.getName());
            }
        }
        due("the methods are those of the document: " + open, open.equals(METHODS));
        for (Method method : face.getDeclaredMethods()) {
            if (Modifier.isPrivate(method.getModifiers())) {
                due(method + " bears no public name", !names.contains(method.getName()));
            }
        }
    }

    private static void constants(Class<?> face) throws IllegalAccessException {
        Set<String> open = new TreeSet<>();
        for (Field field : face.getDeclaredFields()) {
            int marks = field.getModifiers();
            due(field + " is final if it is static", !Modifier.isStatic(marks) || Modifier.isFinal(marks));
            if (!Modifier.isPrivate(marks)) {
                due(field + " is a public constant", Modifier.isPublic(marks) && Modifier.isStatic(marks)
                    && field.getType() == int.class);
                open.add(field.getName() + " " + field.getInt(null));
            }
        }
        due("the constants are those of the document: " + open, open.equals(CONSTANTS));
    }

    public static void main(String[] args) throws IllegalAccessException {
        Class<?> face = GrowingUrns.class;
        due("the class is public and final", Modifier.isPublic(face.getModifiers())
            && Modifier.isFinal(face.getModifiers()));
        due("one constructor, public, of nothing", face.getDeclaredConstructors().length == 1
            && face.getConstructors().length == 1 && face.getConstructors()[0].getParameterCount() == 0);
        due("the package has no name", face.getPackageName().isEmpty());
        for (Class<?> inside : face.getDeclaredClasses()) {
            due(inside + " is static, and not public or protected", Modifier.isStatic(inside.getModifiers())
                && !Modifier.isPublic(inside.getModifiers()) && !Modifier.isProtected(inside.getModifiers()));
        }
        methods(face);
        constants(face);
        System.out.println(wrong == 0 ? "the face is as due" : wrong + " things of the face are not as due");
        if (wrong != 0) {
            System.exit(1);
        }
    }
}
