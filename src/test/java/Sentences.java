import java.lang.reflect.InvocationTargetException;
import java.lang.reflect.Method;
import java.util.ArrayList;
import java.util.Comparator;
import java.util.List;

/** Runs the tests of a class: its static methods that say words of the document, each with a Check of its own. */
final class Sentences {
    private Sentences() {
    }

    static List<Method> of(Class<?> tests) {
        List<Method> found = new ArrayList<>();
        for (Method method : tests.getDeclaredMethods()) {
            if (method.isAnnotationPresent(Says.class)) {
                method.setAccessible(true);
                found.add(method);
            }
        }
        found.sort(Comparator.comparing(Method::getName));
        return found;
    }

    static void run(Class<?> tests) {
        int failed = 0;
        List<Method> all = of(tests);
        for (Method test : all) {
            if (!holds(test)) {
                failed++;
            }
        }
        System.out.println(tests.getName() + ": " + all.size() + " tests, " + failed + " failed");
        if (failed > 0 || all.isEmpty()) {
            System.exit(1);
        }
    }

    private static boolean holds(Method test) {
        Check check = new Check(test.getName());
        try {
            test.invoke(null, check);
        } catch (InvocationTargetException e) {
            check.holds("ends without " + e.getCause(), false);
        } catch (IllegalAccessException e) {
            check.holds("can be run", false);
        }
        return check.passed();
    }
}
