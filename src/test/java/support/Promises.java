import java.lang.reflect.Method;
import java.util.Arrays;
import java.util.Comparator;

/** Runs the tests of a class: its methods promiseNN_what, NN being the promise's number. */
final class Promises {
    static final String NAMED = "promise\\d\\d_\\w+";

    static void run(Class<?> tests) throws ReflectiveOperationException {
        Method[] methods = tests.getDeclaredMethods();
        Arrays.sort(methods, Comparator.comparing(Method::getName));
        int passed = 0;
        int failed = 0;
        for (Method m : methods) {
            if (!m.getName().matches(NAMED)) {
                continue;
            }
            m.setAccessible(true);
            int wrong = Check.wrong();
            int seen = Check.seen();
            m.invoke(null);
            if (Check.wrong() == wrong && Check.seen() > seen) {
                passed++;
            } else {
                failed++;
                System.out.println("FAILED: " + tests.getName() + "." + m.getName());
            }
        }
        System.out.println(passed + " passed, " + failed + " failed");
        if (failed > 0 || passed == 0) {
            System.exit(1);
        }
    }
}
