import java.lang.reflect.InvocationTargetException;
import java.lang.reflect.Method;
import java.util.Arrays;
import java.util.Comparator;

/** Counts the answers that are not as due, and tells them. */
final class Check {
    private String test = "";
    private int wrong;
    private int asked;

    /**
     * Runs each static method of a class whose name begins with "promise", by its name,
     * so that no test can be written and then left out of a list.
     */
    static void runTests(Class<?> owner) {
        Check check = new Check();
        Method[] methods = owner.getDeclaredMethods();
        Arrays.sort(methods, Comparator.comparing(Method::getName));
        int tests = 0;
        for (Method method : methods) {
            if (method.getName().startsWith("promise")) {
                check.runTest(method);
                tests++;
            }
        }
        check.due("tests of " + owner.getName(), tests > 0 ? 1 : 0, 1);
        System.out.print(tests + " tests: ");
        check.finish();
    }

    private void runTest(Method method) {
        test = method.getName() + ": ";
        int before = asked;
        try {
            method.invoke(null, this);
        } catch (InvocationTargetException e) {
            due("threw " + e.getCause(), 1, 0);
        } catch (IllegalAccessException e) {
            due("can't be called: " + e, 1, 0);
        }
        due("asks something", asked > before ? 1 : 0, 1);
        test = "";
    }

    void due(String call, long got, long want) {
        asked++;
        if (got != want) {
            wrong++;
            System.out.println(test + call + " answered " + got + ", due is " + want);
        }
    }

    void none(String call, long got) {
        due(call, got, FieldKeeper.NONE);
    }

    void finish() {
        System.out.println(wrong == 0 ? asked + " answers are as due" : wrong + " of " + asked + " answers are not as due");
        if (wrong != 0) {
            System.exit(1);
        }
    }
}
