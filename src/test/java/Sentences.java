import java.lang.reflect.InvocationTargetException;
import java.lang.reflect.Method;
import java.util.ArrayList;
import java.util.Comparator;
import java.util.List;

/** Runs the tests of a class that quote a sentence of the document. */
final class Sentences {
    private Sentences() {
    }

    static List<Method> of(Class<?> tests) {
        List<Method> found = new ArrayList<>();
        for (Method method : tests.getDeclaredMethods()) {
            if (method.isAnnotationPresent(Sentence.class)) {
                found.add(method);
            }
        }
        found.sort(Comparator.comparing(Method::getName));
        return found;
    }

    static void run(Class<?> tests) {
        for (Method test : of(tests)) {
            run(test);
        }
        Check.end();
    }

    private static void run(Method test) {
        Sentence sentence = test.getAnnotation(Sentence.class);
        Check.about("promise " + sentence.promise() + ", \"" + sentence.value() + "\", " + test.getName() + ": ");
        int before = Check.made();
        try {
            test.invoke(null);
        } catch (InvocationTargetException thrown) {
            Check.due("the test goes through", String.valueOf(thrown.getCause()), "it does");
        } catch (IllegalAccessException hidden) {
            Check.due("the test can be called", String.valueOf(hidden), "it can");
        }
        Check.due("it looks at answers", Check.made() > before, true);
    }
}
