import java.lang.reflect.Constructor;
import java.lang.reflect.Field;
import java.lang.reflect.Member;
import java.lang.reflect.Method;
import java.lang.reflect.Modifier;
import java.util.Arrays;
import java.util.HashSet;
import java.util.Set;
import java.util.TreeSet;

/** The public face is the document's and no more (LANGUAGE.md, rules 1 and 5). */
public final class FaceTest {
    private static final String[] FACE = {
        "void open(int)",
        "int add(int, int, int)",
        "int remove(int, int, int)",
        "int clear(int, int)",
        "int write(int, int, int)",
        "int count(int, int, int)",
        "int gossip(int, int)",
        "int deliver(int)",
        "int drop(int)",
        "boolean copy(int)",
        "void turn(int, int)",
        "boolean contains(int, int, int)",
        "int size(int, int)",
        "int dot(int, int, int, int, int)",
        "int value(int, int, int, int)",
        "int values(int, int)",
        "int total(int, int)",
        "int vector(int, int)",
        "boolean same(int, int)",
        "int message(int, int)",
    };

    private FaceTest() {
    }

    public static void main(String[] args) {
        Check.due("NONE", DotGossip.NONE, -1);
        int kind = DotGossip.class.getModifiers();
        Check.due("the class is public and final", Modifier.isPublic(kind) && Modifier.isFinal(kind), true);
        methodsAreTheFace();
        fieldsAreHidden();
        constructorIsAlone();
        innerClassesAreStatic();
        Check.end();
    }

    private static void methodsAreTheFace() {
        Set<String> open = new TreeSet<>();
        Set<String> names = new HashSet<>();
        for (Method method : DotGossip.class.getDeclaredMethods()) {
            if (!Modifier.isPrivate(method.getModifiers())) {
                Check.due(method + " is public", Modifier.isPublic(method.getModifiers()), true);
                Check.due(method + " is static", Modifier.isStatic(method.getModifiers()), false);
                open.add(shape(method));
                names.add(method.getName());
            }
        }
        Set<String> due = new TreeSet<>(Arrays.asList(FACE));
        Check.due("the methods are the face's: " + open, open.equals(due), true);
        for (Method method : DotGossip.class.getDeclaredMethods()) {
            boolean clash = Modifier.isPrivate(method.getModifiers()) && names.contains(method.getName());
            Check.due(method + " bears a public name", clash, false);
        }
    }

    private static String shape(Method method) {
        String types = Arrays.toString(method.getParameterTypes()).replace("[", "(").replace("]", ")");
        return method.getReturnType() + " " + method.getName() + types;
    }

    private static void fieldsAreHidden() {
        for (Field field : DotGossip.class.getDeclaredFields()) {
            boolean none = field.getName().equals("NONE");
            Check.due(field + " is private", isPrivate(field), !none);
            boolean loose = Modifier.isStatic(field.getModifiers()) && !Modifier.isFinal(field.getModifiers());
            Check.due(field + " is static and not final", loose, false);
        }
    }

    private static void constructorIsAlone() {
        Constructor<?>[] constructors = DotGossip.class.getDeclaredConstructors();
        Check.due("constructors", constructors.length, 1);
        Check.due("its parameters", constructors[0].getParameterCount(), 0);
        Check.due("it is public", Modifier.isPublic(constructors[0].getModifiers()), true);
    }

    private static void innerClassesAreStatic() {
        for (Class<?> inner : DotGossip.class.getDeclaredClasses()) {
            int kind = inner.getModifiers();
            Check.due(inner + " is static", Modifier.isStatic(kind), true);
            Check.due(inner + " is open", Modifier.isPublic(kind) || Modifier.isProtected(kind), false);
        }
    }

    private static boolean isPrivate(Member member) {
        return Modifier.isPrivate(member.getModifiers());
    }
}
