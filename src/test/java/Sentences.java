import java.lang.reflect.InvocationTargetException;
import java.lang.reflect.Method;
import java.util.ArrayList;
import java.util.Comparator;
import java.util.List;

/** Runs the tests of a class, each of which holds BidLines to one sentence of the document. */
final class Sentences {
    private Sentences() {
    }

    /** By promise, then by name. */
    static List<Method> testsOf(Class<?> tests) {
        List<Method> all = new ArrayList<>(List.of(tests.getDeclaredMethods()));
        all.removeIf(m -> m.getAnnotation(Says.class) == null);
        all.sort(Comparator.<Method>comparingInt(m -> m.getAnnotation(Says.class).promise())
                .thenComparing(Method::getName));
        return all;
    }

    static void run(Class<?> tests, Check check) throws IllegalAccessException {
        for (Method m : testsOf(tests)) {
            Says says = m.getAnnotation(Says.class);
            check.begin(m.getName() + ", of promise " + says.promise() + ": \"" + says.sentence() + "\"");
            m.setAccessible(true);
            int asked = check.asked();
            try {
                m.invoke(null);
            } catch (InvocationTargetException e) {
                check.fail("threw " + e.getCause());
            }
            if (check.asked() == asked) {
                check.fail("asked nothing");
            }
        }
        check.finish(tests.getName());
    }
}
