import java.lang.reflect.InvocationTargetException;
import java.lang.reflect.Method;
import java.util.Map;
import java.util.TreeMap;

/** Runs the tests of a class: its methods whose names begin with "promise" or "section" and a number. */
final class Tests {
    /** The names of all tests that ran, each with its class. */
    static final Map<String, String> RAN = new TreeMap<>();

    private Tests() {
    }

    static void run(Class<?> type) throws ReflectiveOperationException {
        Map<String, Method> tests = new TreeMap<>();
        for (Method method : type.getDeclaredMethods()) {
            if (method.getName().matches("(promise|section)\\d\\d[A-Z].*")) {
                tests.put(method.getName(), method);
            }
        }
        for (Method test : tests.values()) {
            String name = type.getSimpleName() + "." + test.getName();
            Check.begin(name);
            test.setAccessible(true);
            int before = Check.passed + Check.failed;
            try {
                test.invoke(null);
            } catch (InvocationTargetException e) {
                Check.same("the test", e.getCause().toString(), "no exception");
            }
            Check.same("the test checks something", Check.passed + Check.failed > before, true);
            RAN.put(name, type.getSimpleName());
        }
    }
}
