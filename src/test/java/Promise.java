import java.lang.reflect.InvocationTargetException;
import java.lang.reflect.Method;
import java.util.ArrayList;
import java.util.Comparator;
import java.util.List;

/** Runs each test of a promise by itself, and tells by their names those that fail. */
final class Promise {
    private Promise() {
    }

    static void run(Class<?> promise) {
        int failed = 0;
        List<Method> tests = testsOf(promise);
        for (Method test : tests) {
            if (!passes(test)) {
                failed++;
                System.out.println(promise.getName() + "." + test.getName() + " failed, it holds the class to: "
                        + String.join(" .. ", test.getAnnotation(Sentence.class).value()));
            }
        }
        System.out.println(tests.size() + " tests, " + failed + " failed");
        if (failed != 0 || tests.isEmpty()) {
            System.exit(1);
        }
    }

    static List<Method> testsOf(Class<?> promise) {
        List<Method> tests = new ArrayList<>();
        for (Method m : promise.getDeclaredMethods()) {
            if (m.isAnnotationPresent(Sentence.class)) {
                tests.add(m);
            }
        }
        tests.sort(Comparator.comparing(Method::getName));
        return tests;
    }

    static boolean passes(Method test) {
        Due due = new Due();
        try {
            test.invoke(null, due);
        } catch (InvocationTargetException e) {
            System.out.println("it threw " + e.getCause());
            return false;
        } catch (IllegalAccessException e) {
            throw new IllegalStateException(e);
        }
        return due.wasMet();
    }
}
