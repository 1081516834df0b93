import java.lang.reflect.Constructor;
import java.lang.reflect.Field;
import java.lang.reflect.Method;
import java.lang.reflect.Modifier;
import java.util.ArrayList;
import java.util.Collections;
import java.util.HashSet;
import java.util.List;
import java.util.Set;

/** The class shows the document's face, and nothing else. */
public final class FaceTest {
    private static final String IAE = " throws IllegalArgumentException";
    private static final String ISE = " throws IllegalStateException";
    private static final String IOOBE = " throws IndexOutOfBoundsException";
    private static final String[] FACE = {
        "int add(int, int, int) throws IllegalArgumentException, IllegalStateException",
        "int remove(int)" + IOOBE,
        "int toggle(int) throws IndexOutOfBoundsException, IllegalStateException",
        "int bare(int) throws IndexOutOfBoundsException, IllegalStateException",
        "int thin()" + ISE,
        "int agree()" + ISE,
        "int append(int) throws IllegalArgumentException, IllegalStateException",
        "int clearBuffer()",
        "int firstError()",
        "int read()" + IAE,
        "int undo()" + ISE,
        "int condition(int, int) throws IndexOutOfBoundsException, IllegalArgumentException",
        "int agrees(int, int)" + IOOBE,
        "long joined(int)" + IAE,
        "int count(int)" + IAE,
        "int prime(int, int)" + IAE,
        "long answer(long, int)" + IAE,
        "long nearest(long)" + IAE,
        "long between(long, long)" + IAE,
        "int misses(long)" + IAE,
        "long ifAdded(int, int, int, int)" + IAE,
        "long without(int, int) throws IndexOutOfBoundsException, IllegalArgumentException",
        "int most()",
        "int blame()",
        "double density()",
        "long digest()",
    };

    public static void main(String[] args) throws Exception {
        Check check = new Check("FaceTest");
        Class<SharedModuli> face = SharedModuli.class;
        check.isTrue("public and final", Modifier.isPublic(face.getModifiers()) && Modifier.isFinal(face.getModifiers()));
        check.isTrue("no package", face.getPackageName().isEmpty());
        checkConstructors(check, face);
        checkFields(check, face);
        checkMethods(check, face);
        for (Class<?> inside : face.getDeclaredClasses()) {
            check.isTrue(inside.getSimpleName() + " is static and not public", Modifier.isStatic(inside.getModifiers())
                && !Modifier.isPublic(inside.getModifiers()) && !Modifier.isProtected(inside.getModifiers()));
        }
        check.end();
    }

    private static void checkConstructors(Check check, Class<?> face) {
        Constructor<?>[] found = face.getDeclaredConstructors();
        check.due("constructors", found.length, 1);
        check.isTrue("a public constructor", Modifier.isPublic(found[0].getModifiers()));
        check.due("parameters of the constructor", found[0].getParameterCount(), 0);
    }

    private static void checkFields(Check check, Class<?> face) throws Exception {
        for (Field field : face.getDeclaredFields()) {
            boolean isNone = field.getName().equals("NONE");
            check.isTrue(field.getName() + " is private or NONE", isNone || Modifier.isPrivate(field.getModifiers()));
            check.isTrue(field.getName() + " is final if static",
                !Modifier.isStatic(field.getModifiers()) || Modifier.isFinal(field.getModifiers()));
        }
        Field none = face.getDeclaredField("NONE");
        check.isTrue("public static final NONE",
            none.getModifiers() == (Modifier.PUBLIC | Modifier.STATIC | Modifier.FINAL));
        check.isTrue("NONE is an int", none.getType() == int.class);
        check.due("NONE", SharedModuli.NONE, -1);
    }

    private static void checkMethods(Check check, Class<?> face) {
        List<String> found = new ArrayList<>();
        Set<String> publicNames = new HashSet<>();
        for (Method method : face.getDeclaredMethods()) {
            if (Modifier.isPublic(method.getModifiers())) {
                found.add(told(method));
                publicNames.add(method.getName());
            }
        }
        for (Method method : face.getDeclaredMethods()) {
            if (!Modifier.isPublic(method.getModifiers()) && !method.isSynthetic()) {
                check.isTrue(method.getName() + " is private", Modifier.isPrivate(method.getModifiers()));
                check.isTrue(method.getName() + " bears no public name", !publicNames.contains(method.getName()));
            }
        }
        List<String> due = new ArrayList<>(List.of(FACE));
        Collections.sort(found);
        Collections.sort(due);
        check.isTrue("the face is " + found + ", due is " + due, found.equals(due));
    }

    private static String told(Method method) {
        StringBuilder text = new StringBuilder();
        text.append(method.getReturnType().getSimpleName()).append(' ').append(method.getName()).append('(');
        String between = "";
        for (Class<?> type : method.getParameterTypes()) {
            text.append(between).append(type.getSimpleName());
            between = ", ";
        }
        text.append(')');
        between = " throws ";
        for (Class<?> type : method.getExceptionTypes()) {
            text.append(between).append(type.getSimpleName());
            between = ", ";
        }
        return text.toString();
    }
}
