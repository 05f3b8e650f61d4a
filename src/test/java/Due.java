import java.lang.reflect.InvocationTargetException;
import java.lang.reflect.Method;
import java.util.ArrayList;
import java.util.Arrays;
import java.util.Comparator;
import java.util.List;
import java.util.function.Supplier;
import java.util.function.ToIntFunction;

/** One test's answers, held against those that are due. */
final class Due {
    private static final int MOST_TOLD = 40;

    private final List<String> faults = new ArrayList<>();
    private int calls;

    void is(String call, long want, long got) {
        calls++;
        if (got != want) {
            faults.add(call + " answered " + got + ", due is " + want);
        }
    }

    /** The call is made on an object of its own, and nothing may be changed behind it. */
    void refused(int want, Supplier<MileRoad> made, String call, ToIntFunction<MileRoad> asked) {
        is(call, want, asked.applyAsInt(made.get()));
        changesNothing(made, call, asked);
    }

    void changesNothing(Supplier<MileRoad> made, String call, ToIntFunction<MileRoad> asked) {
        calls++;
        for (String changed : Look.changedBy(made, asked)) {
            faults.add(call + " changed " + changed);
        }
    }

    void end(String test) {
        tell(test, faults);
        System.out.println(test + ": " + calls + " answers, " + faults.size() + " not as due");
        if (!faults.isEmpty() || calls == 0) {
            System.exit(1);
        }
    }

    /** The tests of a class: those that say what words of the document they are for. */
    static List<Method> testsOf(Class<?> tests) {
        List<Method> found = new ArrayList<>();
        for (Method method : tests.getDeclaredMethods()) {
            if (method.isAnnotationPresent(Says.class)) {
                found.add(method);
            }
        }
        found.sort(Comparator.comparing(Method::getName));
        return found;
    }

    static List<String> faultsOf(Method test) throws IllegalAccessException {
        Due due = new Due();
        try {
            test.invoke(null, due);
        } catch (InvocationTargetException e) {
            due.faults.add("it ended by " + e.getCause());
        }
        if (due.calls == 0) {
            due.faults.add("it asks nothing");
        }
        return due.faults;
    }

    static void runAll(Class<?> tests) throws IllegalAccessException {
        int wrong = 0;
        List<Method> found = testsOf(tests);
        for (Method test : found) {
            List<String> faults = faultsOf(test);
            if (!faults.isEmpty()) {
                wrong++;
                tell(test.getName() + " " + Arrays.toString(test.getAnnotation(Says.class).value()), faults);
            }
        }
        System.out.println(tests.getName() + ": " + found.size() + " tests, " + wrong + " failed");
        if (wrong != 0 || found.isEmpty()) {
            System.exit(1);
        }
    }

    private static void tell(String test, List<String> faults) {
        for (int i = 0; i < Math.min(faults.size(), MOST_TOLD); i++) {
            System.out.println(test + ": " + faults.get(i));
        }
    }
}
