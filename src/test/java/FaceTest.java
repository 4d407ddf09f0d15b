import java.lang.reflect.Executable;
import java.lang.reflect.Field;
import java.lang.reflect.Method;
import java.lang.reflect.Modifier;
import java.util.ArrayList;
import java.util.Arrays;
import java.util.List;
import java.util.NoSuchElementException;
import java.util.TreeSet;

/** The document's public face, and rules 1 and 11 of the language where reflection can see them. */
final class FaceTest {
    private static final Class<?> ARGUMENT = IllegalArgumentException.class;
    private static final Class<?> STATE = IllegalStateException.class;
    private static final Class<?> ELEMENT = NoSuchElementException.class;
    private static final Class<?> RIGHT = UnsupportedOperationException.class;
    private static final Class<?> INDEX = IndexOutOfBoundsException.class;
    private static final Class<?> ARITHMETIC = ArithmeticException.class;
    private static final Checks CHECKS = new Checks("FaceTest");
    private static final TreeSet<String> FACE = new TreeSet<>();

    public static void main(String[] args) {
        methods();
        CHECKS.check("the class", Modifier.toString(CapabilityDomains.class.getModifiers()),
                "public final");
        CHECKS.check("constructors",
                Arrays.toString(CapabilityDomains.class.getDeclaredConstructors()),
                "[public CapabilityDomains()]");
        noOtherMethods();
        fieldsArePrivate();
        for (Class<?> inside : CapabilityDomains.class.getDeclaredClasses()) {
            insideClass(inside);
        }
        CHECKS.finish();
    }

    private static void methods() {
        method("domain", 0, STATE);
        method("object", 1, ARGUMENT, STATE, ARITHMETIC);
        method("set", 4, ARGUMENT, STATE, ELEMENT, INDEX);
        method("link", 4, ARGUMENT, STATE, ELEMENT, INDEX);
        method("hold", 4, ARGUMENT, STATE, ELEMENT, INDEX);
        method("export", 5, ARGUMENT, STATE, ELEMENT, ARITHMETIC);
        method("narrow", 4, ARGUMENT, STATE, ELEMENT, RIGHT, ARITHMETIC);
        method("give", 4, ARGUMENT, STATE, ELEMENT);
        method("revoke", 2, ARGUMENT, STATE, ELEMENT, RIGHT);
        method("read", 3, ARGUMENT, STATE, ELEMENT, RIGHT, INDEX, ARITHMETIC);
        method("write", 4, ARGUMENT, STATE, ELEMENT, RIGHT, INDEX);
        method("pass", 4, ARGUMENT, STATE, ELEMENT, RIGHT, INDEX, ARITHMETIC);
        method("take", 4, ARGUMENT, STATE, ELEMENT, RIGHT, INDEX, ARITHMETIC);
        method("free", 2, ARGUMENT, STATE, ELEMENT, RIGHT);
        method("end", 1, ARGUMENT, STATE);
        method("holds", 3);
        method("linked", 3);
        method("slot", 2);
        method("count", 1);
    }

    private static void method(String name, int arguments, Class<?>... thrown) {
        FACE.add(name);
        Class<?>[] ints = new Class<?>[arguments];
        Arrays.fill(ints, int.class);
        String got;
        try {
            Method method = CapabilityDomains.class.getDeclaredMethod(name, ints);
            got = Modifier.toString(method.getModifiers()) + " " + method.getReturnType() + " "
                    + Arrays.toString(method.getExceptionTypes());
        } catch (NoSuchMethodException e) {
            got = "is not there";
        }
        CHECKS.check(name, got, "public int " + Arrays.toString(thrown));
    }

    private static void noOtherMethods() {
        List<String> seen = new ArrayList<>();
        for (Method method : CapabilityDomains.class.getDeclaredMethods()) {
            if (!Modifier.isPrivate(method.getModifiers())) {
                seen.add(method.getName());
            } else {
                bearsNoFaceName(method);
            }
            fewParameters(method);
        }
        seen.sort(null);
        CHECKS.check("rule 1: all methods that others see", seen.toString(), FACE.toString());
    }

    private static void bearsNoFaceName(Method method) {
        CHECKS.check("rule 1: private " + method.getName() + " has a name of the face",
                String.valueOf(FACE.contains(method.getName())), "false");
    }

    private static void fewParameters(Executable executable) {
        CHECKS.check("rule 11: at most seven parameters in " + executable,
                String.valueOf(executable.getParameterCount() <= 7), "true");
    }

    private static void fieldsArePrivate() {
        for (Field field : CapabilityDomains.class.getDeclaredFields()) {
            int modifiers = field.getModifiers();
            CHECKS.check("rule 1: private " + field.getName(),
                    String.valueOf(Modifier.isPrivate(modifiers)), "true");
            CHECKS.check("rule 5: static " + field.getName() + " is final",
                    String.valueOf(!Modifier.isStatic(modifiers) || Modifier.isFinal(modifiers)),
                    "true");
        }
    }

    private static void insideClass(Class<?> inside) {
        int modifiers = inside.getModifiers();
        CHECKS.check("rule 1: static and seen by no other, " + inside.getSimpleName(),
                String.valueOf(Modifier.isStatic(modifiers) && !Modifier.isPublic(modifiers)
                        && !Modifier.isProtected(modifiers)),
                "true");
        for (Method method : inside.getDeclaredMethods()) {
            bearsNoFaceName(method);
            fewParameters(method);
        }
        for (Executable constructor : inside.getDeclaredConstructors()) {
            fewParameters(constructor);
        }
    }
}
