import java.lang.reflect.InvocationTargetException;
import java.lang.reflect.Method;
import java.util.ArrayList;
import java.util.Arrays;
import java.util.List;
import java.util.Random;
import java.util.Set;
import java.util.TreeSet;

/** Promises 1 to 20: drawn runs of 512 calls, always the same ones, each answer against the model's. */
final class ModelRunsTest {
    private static final int RUNS = 600;
    private static final int CALLS = 512;
    private static final Checks CHECKS = new Checks("ModelRunsTest");

    /**
     * A call of the face; how often it is drawn (ends and revokes seldom, so that there is much to
     * end); and what its arguments mean, a letter each.
     */
    private enum Face {
        domain(2, ""), object(8, "d"), set(6, "dofv"), link(12, "dofo"), hold(8, "dofs"),
        export(10, "dosru"), narrow(9, "dsru"), give(12, "dsds"), revoke(1, "ds"), read(10, "dsf"),
        write(10, "dsfv"), pass(10, "dsfo"), take(8, "dsfs"), free(3, "ds"), end(1, "d"),
        holds(6, "dof"), linked(6, "dof"), slot(4, "ds"), count(4, "w");

        final int weight;
        final String arguments;

        Face(int weight, String arguments) {
            this.weight = weight;
            this.arguments = arguments;
        }
    }

    private static final Face[] FACE = Face.values();

    public static void main(String[] args) throws ReflectiveOperationException {
        Method[] ofClass = methodsOf(CapabilityDomains.class);
        Method[] ofModel = methodsOf(Model.class);
        List<Set<String>> drawnKinds = new ArrayList<>();
        for (Face call : FACE) {
            drawnKinds.add(new TreeSet<>());
        }
        for (int run = 0; run < RUNS; run++) {
            Random random = new Random(run);
            CapabilityDomains x = new CapabilityDomains();
            Model model = new Model();
            // What ends or is used up stops much of a run: half of the runs are spared most of it.
            boolean calm = run % 2 == 0;
            for (int i = 0; i < CALLS; i++) {
                Face call = i < 3 ? Face.domain : drawCall(random, calm);
                Object[] drawn = drawArguments(random, call, calm);
                String due = answer(ofModel[call.ordinal()], model, drawn);
                String got = answer(ofClass[call.ordinal()], x, drawn);
                CHECKS.check(told(run, i, call, drawn), got, due);
                drawnKinds.get(call.ordinal()).add(due.startsWith("throws.") ? due : "answers");
            }
        }
        for (Face call : FACE) {
            CHECKS.check(call + " was drawn to do", drawnKinds.get(call.ordinal()).toString(),
                    kindsOf(ofClass[call.ordinal()]).toString());
        }
        CHECKS.finish();
    }

    /** All that a call of the face can do: runs that never come to one of them would test little. */
    private static Set<String> kindsOf(Method method) {
        Set<String> kinds = new TreeSet<>();
        kinds.add("answers");
        for (Class<?> thrown : method.getExceptionTypes()) {
            kinds.add("throws." + thrown.getSimpleName());
        }
        return kinds;
    }

    private static Method[] methodsOf(Class<?> owner) throws ReflectiveOperationException {
        Method[] methods = new Method[FACE.length];
        for (Face call : FACE) {
            Class<?>[] ints = new Class<?>[call.arguments.length()];
            Arrays.fill(ints, int.class);
            methods[call.ordinal()] = owner.getDeclaredMethod(call.name(), ints);
        }
        return methods;
    }

    private static Face drawCall(Random random, boolean calm) {
        int sum = 0;
        for (Face call : FACE) {
            sum += call.weight;
        }
        int left = random.nextInt(sum);
        for (Face call : FACE) {
            left -= call.weight;
            if (left < 0) {
                return calm && call == Face.end ? Face.object : call;
            }
        }
        throw new AssertionError("the weights have another sum");
    }

    private static Object[] drawArguments(Random random, Face call, boolean calm) {
        Object[] drawn = new Object[call.arguments.length()];
        for (int i = 0; i < drawn.length; i++) {
            drawn[i] = drawArgument(random, call.arguments.charAt(i), calm);
        }
        return drawn;
    }

    private static int drawArgument(Random random, char meaning, boolean calm) {
        switch (meaning) {
            case 'd': return mostlyBelow(random, 3);
            case 'o': return mostlyBelow(random, 6);
            case 'f': return mostlyBelow(random, 3);
            case 's': return mostlyBelow(random, 4);
            case 'r': return random.nextInt(calm ? 8 : 2) == 0 ? random.nextInt(34) - 1 : 31;
            case 'u': return random.nextInt(calm ? 8 : 2) == 0 ? random.nextInt(14) - 2 : -1;
            case 'w': return random.nextInt(13) - 1;
            default: return random.nextInt();
        }
    }

    private static int mostlyBelow(Random random, int size) {
        if (random.nextInt(40) != 0) {
            return random.nextInt(size);
        }
        return random.nextInt(8) == 0 ? farFromAll(random) : random.nextInt(16) - 2;
    }

    private static int farFromAll(Random random) {
        return random.nextBoolean() ? Integer.MIN_VALUE : Integer.MAX_VALUE;
    }

    private static String answer(Method method, Object on, Object[] drawn)
            throws ReflectiveOperationException {
        try {
            return String.valueOf(method.invoke(on, drawn));
        } catch (InvocationTargetException e) {
            return Checks.nameOf((RuntimeException) e.getCause());
        }
    }

    private static String told(int run, int i, Face call, Object[] drawn) {
        return "run " + run + ", call " + i + ": " + call + Arrays.toString(drawn);
    }
}
