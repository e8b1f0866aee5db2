import java.lang.reflect.Constructor;
import java.lang.reflect.Field;
import java.lang.reflect.Member;
import java.lang.reflect.Method;
import java.lang.reflect.Modifier;
import java.util.Set;
import java.util.TreeSet;

/** The public face: the class, its constants with their values, its constructor and methods, no more. */
public final class FaceTest {
    private static final Checks checks = new Checks();

    private static final Set<String> CONSTANTS = Set.of("int NONE = -1", "int UNKNOWN = -2", "int OUTSIDE = -3",
        "int NOT = -4", "int FULL = -5", "int SPENT = -6");

    private static final Set<String> METHODS = Set.of("int write(long, int)", "int erase()", "int fault()", "int told()",
        "int free(int, int, boolean)", "int add(int, int)", "int clear(int)", "int letter(int, int, int)",
        "int same(int, int)", "int apart(int, int)", "int layer(int, int)", "int ahead(int, int, int)",
        "int begins(int, int)", "int join(int, int, int)", "int left(int, int, int)", "int shared(int, int, int)",
        "int both(int, int, int)", "int mirror(int)", "int part(int, int)", "int root(int)", "int circle(int)",
        "int turned(int, int)", "int together(int)", "int many(int)", "int of(int, int, int)", "int place(int)",
        "int reader(int, int)", "int move(int, int, int)", "int minds()", "int run(int, int)", "int taken(int)",
        "int count(int)");

    public static void main(String[] args) throws Exception {
        looksAtClass();
        looksAtConstants();
        looksAtMethods();
        checks.finish();
    }

    private static void looksAtClass() {
        int modifiers = SwapSteps.class.getModifiers();
        checks.due("the class is public and final", modifiers, Modifier.PUBLIC | Modifier.FINAL);
        checks.due("the class has a package", SwapSteps.class.getPackageName().isEmpty() ? 0 : 1, 0);
        checks.due("the class extends Object alone", SwapSteps.class.getSuperclass() == Object.class ? 1 : 0, 1);
        checks.due("interfaces of the class", SwapSteps.class.getInterfaces().length, 0);
        checks.due("constructors", SwapSteps.class.getDeclaredConstructors().length, 1);
        for (Constructor<?> constructor : SwapSteps.class.getDeclaredConstructors()) {
            checks.due("the constructor is public", constructor.getModifiers(), Modifier.PUBLIC);
            checks.due("parameters of the constructor", constructor.getParameterCount(), 0);
            checks.due("what the constructor throws", constructor.getExceptionTypes().length, 0);
        }
        for (Class<?> inside : SwapSteps.class.getDeclaredClasses()) {
            int seen = inside.getModifiers() & (Modifier.PUBLIC | Modifier.PROTECTED);
            checks.due(inside + " is seen from outside", seen, 0);
        }
    }

    private static void looksAtConstants() throws Exception {
        Set<String> found = new TreeSet<>();
        for (Field field : SwapSteps.class.getDeclaredFields()) {
            if (isSeen(field)) {
                int constant = Modifier.PUBLIC | Modifier.STATIC | Modifier.FINAL;
                checks.due(field + " is a public constant", field.getModifiers(), constant);
                found.add(field.getType() + " " + field.getName() + " = " + field.getInt(null));
            }
        }
        dueSet(found, CONSTANTS);
    }

    private static void looksAtMethods() {
        Set<String> found = new TreeSet<>();
        for (Method method : SwapSteps.class.getDeclaredMethods()) {
            if (isSeen(method)) {
                checks.due(method + " is public, no more", method.getModifiers(), Modifier.PUBLIC);
                checks.due("what " + method + " throws", method.getExceptionTypes().length, 0);
                found.add(method.getReturnType() + " " + method.getName() + parameters(method));
            }
        }
        dueSet(found, METHODS);
    }

    private static boolean isSeen(Member member) {
        return !Modifier.isPrivate(member.getModifiers());
    }

    private static String parameters(Method method) {
        StringBuilder told = new StringBuilder("(");
        for (Class<?> type : method.getParameterTypes()) {
            told.append(told.length() > 1 ? ", " : "").append(type.getName());
        }
        return told.append(')').toString();
    }

    private static void dueSet(Set<String> found, Set<String> due) {
        for (String one : due) {
            checks.due("the face has " + one, found.contains(one) ? 1 : 0, 1);
        }
        for (String one : found) {
            checks.due("the document has " + one, due.contains(one) ? 1 : 0, 1);
        }
        checks.due("members of the face", found.size(), due.size());
    }
}
