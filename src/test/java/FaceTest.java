import java.lang.reflect.Constructor;
import java.lang.reflect.Field;
import java.lang.reflect.Member;
import java.lang.reflect.Method;
import java.lang.reflect.Modifier;
import java.util.ArrayList;
import java.util.Arrays;
import java.util.HashSet;
import java.util.List;
import java.util.Set;
import java.util.TreeSet;

/** The public face is the document's and no more (LANGUAGE.md, rule 1). */
public final class FaceTest {
    /** As the document has it, without "public" and the parameters' names. */
    private static final String[] FACE = {
        "void open(int) throws IllegalArgumentException",
        "int add(int, int, int) throws IllegalArgumentException",
        "int remove(int, int, int) throws IllegalArgumentException",
        "int clear(int, int) throws IllegalArgumentException",
        "int write(int, int, int) throws IllegalArgumentException",
        "int count(int, int, int) throws IllegalArgumentException",
        "int gossip(int, int) throws IllegalArgumentException, IllegalStateException",
        "int deliver(int) throws IllegalArgumentException",
        "int drop(int) throws IllegalArgumentException",
        "boolean copy(int) throws IllegalArgumentException",
        "void turn(int, int) throws IllegalArgumentException",
        "boolean contains(int, int, int) throws IllegalArgumentException",
        "int size(int, int) throws IllegalArgumentException",
        "int dot(int, int, int, int, int) throws IllegalArgumentException",
        "int value(int, int, int, int) throws IllegalArgumentException",
        "int values(int, int) throws IllegalArgumentException",
        "int total(int, int) throws IllegalArgumentException",
        "int vector(int, int) throws IllegalArgumentException",
        "boolean same(int, int) throws IllegalArgumentException",
        "int message(int, int) throws IllegalArgumentException",
    };

    private FaceTest() {
    }

    public static void main(String[] args) {
        classIsTheFaces();
        noneIsAConstant();
        methodsAreTheFace();
        constructorIsAlone();
        innerClassesAreStatic();
        Check.end();
    }

    private static void classIsTheFaces() {
        int kind = DotGossip.class.getModifiers();
        Check.due("the class is public and final", Modifier.isPublic(kind) && Modifier.isFinal(kind), true);
        Check.due("it has no package", DotGossip.class.getPackageName().isEmpty(), true);
        Check.due("it extends no class", DotGossip.class.getSuperclass() == Object.class, true);
        Check.due("interfaces", DotGossip.class.getInterfaces().length, 0);
        Check.due("type parameters", DotGossip.class.getTypeParameters().length, 0);
    }

    private static void noneIsAConstant() {
        Check.due("NONE", DotGossip.NONE, -1);
        Set<String> open = new TreeSet<>();
        for (Field field : DotGossip.class.getDeclaredFields()) {
            if (!isPrivate(field)) {
                open.add(field.toString());
            }
        }
        Set<String> due = Set.of("public static final int DotGossip.NONE");
        Check.due("the fields are the face's: " + open, open.equals(due), true);
    }

    private static void methodsAreTheFace() {
        Set<String> open = new TreeSet<>();
        Set<String> names = new HashSet<>();
        for (Method method : DotGossip.class.getDeclaredMethods()) {
            if (!Modifier.isPrivate(method.getModifiers())) {
                Check.due(method + " is public", Modifier.isPublic(method.getModifiers()), true);
                Check.due(method + " is static", Modifier.isStatic(method.getModifiers()), false);
                open.add(shape(method));
                names.add(method.getName());
            }
        }
        Set<String> due = new TreeSet<>(Arrays.asList(FACE));
        Check.due("the methods are the face's: " + open, open.equals(due), true);
        for (Method method : DotGossip.class.getDeclaredMethods()) {
            boolean clash = Modifier.isPrivate(method.getModifiers()) && names.contains(method.getName());
            Check.due(method + " bears a public name", clash, false);
        }
    }

    private static String shape(Method method) {
        String taken = names(method.getParameterTypes());
        String thrown = names(method.getExceptionTypes());
        return method.getReturnType() + " " + method.getName() + "(" + taken + ") throws " + thrown;
    }

    private static String names(Class<?>[] types) {
        List<String> names = new ArrayList<>();
        for (Class<?> type : types) {
            names.add(type.getSimpleName());
        }
        return String.join(", ", names);
    }

    private static void constructorIsAlone() {
        Constructor<?>[] constructors = DotGossip.class.getDeclaredConstructors();
        Check.due("constructors", constructors.length, 1);
        Check.due("its parameters", constructors[0].getParameterCount(), 0);
        Check.due("it is public", Modifier.isPublic(constructors[0].getModifiers()), true);
        Check.due("exceptions it names", constructors[0].getExceptionTypes().length, 0);
    }

    private static void innerClassesAreStatic() {
        for (Class<?> inner : DotGossip.class.getDeclaredClasses()) {
            int kind = inner.getModifiers();
            Check.due(inner + " is static", Modifier.isStatic(kind), true);
            Check.due(inner + " is open", Modifier.isPublic(kind) || Modifier.isProtected(kind), false);
        }
    }

    private static boolean isPrivate(Member member) {
        return Modifier.isPrivate(member.getModifiers());
    }
}
