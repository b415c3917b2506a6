import java.lang.reflect.Constructor;
import java.lang.reflect.Field;
import java.lang.reflect.Method;
import java.lang.reflect.Modifier;
import java.util.Arrays;
import java.util.Set;
import java.util.TreeSet;
import java.util.stream.Collectors;

/** The public face: every constant, constructor and method of the document, and nothing open beside them. */
public final class FaceTest {
    /** What the document declares public, each with the exceptions that it names, in its order. */
    static final String[] FACE = {
        "int table() UnsupportedOperationException",
        "int stage(int, long, int) IndexOutOfBoundsException IllegalArgumentException IllegalStateException"
                + " UnsupportedOperationException",
        "long tax(int, long) IndexOutOfBoundsException IllegalArgumentException",
        "int deduction(boolean, int, long, long, long) IllegalArgumentException UnsupportedOperationException",
        "int employ(int, int, int) IndexOutOfBoundsException IllegalArgumentException"
                + " UnsupportedOperationException",
        "void change(int, int, long) IndexOutOfBoundsException IllegalArgumentException",
        "boolean enrol(int, int, boolean) IndexOutOfBoundsException",
        "void bonus(int) IllegalArgumentException",
        "int pay(int, long, boolean) IndexOutOfBoundsException IllegalArgumentException"
                + " UnsupportedOperationException",
        "long ask(int, long, boolean) IndexOutOfBoundsException IllegalArgumentException"
                + " UnsupportedOperationException",
        "int correct(int, int, long) IndexOutOfBoundsException NoSuchElementException IllegalArgumentException",
        "long line(int, int, int) IndexOutOfBoundsException NoSuchElementException IllegalArgumentException",
        "long part(int, int, int) IndexOutOfBoundsException NoSuchElementException",
        "long sum(int, int) IndexOutOfBoundsException IllegalArgumentException",
        "long deducted(int, int) IndexOutOfBoundsException",
        "long settle(int) IndexOutOfBoundsException",
        "long duty(int) IndexOutOfBoundsException",
        "int close() IllegalStateException UnsupportedOperationException",
        "long statement(int, int, int) IndexOutOfBoundsException NoSuchElementException IllegalArgumentException",
        "long office(int) IllegalArgumentException",
        "int count(int)"};

    private static final Class<PayLedger> CLASS = PayLedger.class;
    private static final Check check = new Check();

    public static void main(String[] args) throws ReflectiveOperationException {
        theClass();
        constants();
        constructors();
        methods();
        classesInside();
        check.end("FaceTest");
    }

    private static void theClass() {
        check.due("the class is", "public final", Modifier.toString(CLASS.getModifiers()));
        check.due("its package", "", CLASS.getPackageName());
        check.dueTrue("it extends nothing", CLASS.getSuperclass() == Object.class);
        check.due("interfaces", 0, CLASS.getInterfaces().length);
        check.due("type parameters", 0, CLASS.getTypeParameters().length);
    }

    private static void constants() throws ReflectiveOperationException {
        Set<String> open = new TreeSet<>();
        for (Field f : CLASS.getDeclaredFields()) {
            if (!Modifier.isPrivate(f.getModifiers())) {
                open.add(Modifier.toString(f.getModifiers()) + " " + f.getType().getSimpleName() + " " + f.getName());
            }
        }
        check.due("open fields", "[public static final int NONE]", open.toString());
        check.due("NONE", -1, CLASS.getField("NONE").getInt(null));
    }

    private static void constructors() {
        Constructor<?>[] all = CLASS.getDeclaredConstructors();
        check.due("constructors", 1, all.length);
        check.due("the constructor is", "public", Modifier.toString(all[0].getModifiers()));
        check.due("its parameters", 0, all[0].getParameterCount());
        check.due("its exceptions", 0, all[0].getExceptionTypes().length);
    }

    private static void methods() {
        Set<String> due = new TreeSet<>();
        for (String method : FACE) {
            due.add("public " + method);
        }
        Set<String> open = new TreeSet<>();
        for (Method m : CLASS.getDeclaredMethods()) {
            if (!Modifier.isPrivate(m.getModifiers())) {
                open.add(Modifier.toString(m.getModifiers()) + " " + written(m));
            }
        }
        check.due("the open methods", due.toString(), open.toString());
    }

    private static String written(Method m) {
        StringBuilder text = new StringBuilder(m.getReturnType().getSimpleName()).append(' ').append(m.getName());
        text.append(Arrays.stream(m.getParameterTypes()).map(Class::getSimpleName)
                .collect(Collectors.joining(", ", "(", ")")));
        for (Class<?> type : m.getExceptionTypes()) {
            text.append(' ').append(type.getSimpleName());
        }
        return text.toString();
    }

    private static void classesInside() {
        for (Class<?> c : CLASS.getDeclaredClasses()) {
            int modifiers = c.getModifiers();
            boolean open = Modifier.isPublic(modifiers) || Modifier.isProtected(modifiers);
            check.dueTrue(c.getName() + " is not open", !open);
            check.dueTrue(c.getName() + " is static", Modifier.isStatic(modifiers));
        }
    }
}
