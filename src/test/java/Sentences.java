import java.lang.reflect.InvocationTargetException;
import java.lang.reflect.Method;
import java.util.ArrayList;
import java.util.Comparator;
import java.util.List;

/** Runs the tests of a class that hold sentences of the document. */
final class Sentences {
    private Sentences() {
    }

    static List<Method> testsOf(Class<?> tests) {
        List<Method> found = new ArrayList<>();
        for (Method method : tests.getDeclaredMethods()) {
            if (method.isAnnotationPresent(Holds.class)) {
                found.add(method);
            }
        }
        found.sort(Comparator.comparing(Method::getName));
        return found;
    }

    static void run(Class<?> tests) {
        for (Method test : testsOf(tests)) {
            int rightBefore = Check.right();
            int wrongBefore = Check.wrong();
            runOne(test);
            Check.due(test.getName() + " asks something", true,
                () -> Check.right() + Check.wrong() > rightBefore + wrongBefore);
            if (Check.wrong() > wrongBefore) {
                Holds held = test.getAnnotation(Holds.class);
                System.out.println("  in " + test.getName() + ", " + held.at() + ": " + held.sentence());
            }
        }
        Check.end(tests.getSimpleName());
    }

    private static void runOne(Method test) {
        try {
            test.setAccessible(true);
            test.invoke(null);
        } catch (InvocationTargetException thrown) {
            Check.due(test.getName() + ", on its way,", "nothing thrown", () -> thrown.getCause());
        } catch (IllegalAccessException thrown) {
            Check.due(test.getName(), "run", () -> thrown);
        }
    }
}
