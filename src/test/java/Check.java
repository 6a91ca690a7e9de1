import java.lang.reflect.InvocationTargetException;
import java.lang.reflect.Method;
import java.util.Arrays;
import java.util.Comparator;

/** Counts the answers that are not the ones that are due, and tells each. */
final class Check {
    private static int wrong = 0;
    private static String part = "";

    private Check() {
    }

    static void part(String name) {
        part = name;
    }

    static void same(String call, long got, long want) {
        if (got != want) {
            fault(call + " answered " + got + ", due is " + want);
        }
    }

    static void fault(String what) {
        wrong++;
        System.out.println(part + ": " + what);
    }

    static boolean allRight() {
        return wrong == 0;
    }

    static void finish() {
        System.out.println(wrong == 0 ? "all answers are as due" : wrong + " answers are not as due");
        if (wrong != 0) {
            System.exit(1);
        }
    }

    /**
     * Runs every method whose name begins with promise and two digits, so that none can be
     * forgotten in a list; each of the promises from first to last must have one.
     */
    static void runPromises(Class<?> tests, int first, int last) {
        Method[] methods = tests.getDeclaredMethods();
        Arrays.sort(methods, Comparator.comparing(Method::getName));
        int[] found = new int[100];
        int count = 0;
        for (Method method : methods) {
            if (method.getName().matches("promise[0-9][0-9].*")) {
                found[Integer.parseInt(method.getName().substring(7, 9))]++;
                count++;
                runOne(method);
            }
        }
        part(tests.getName());
        for (int promise = first; promise <= last; promise++) {
            if (found[promise] == 0) {
                fault("promise " + promise + " has no test");
            }
        }
        System.out.println(count + " tests of promises " + first + " to " + last);
        finish();
    }

    private static void runOne(Method method) {
        part(method.getName());
        try {
            method.invoke(null);
        } catch (InvocationTargetException e) {
            fault("it threw " + e.getCause());
        } catch (IllegalAccessException e) {
            fault("it can't be called");
        }
    }
}
