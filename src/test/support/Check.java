import java.lang.reflect.InvocationTargetException;
import java.lang.reflect.Method;
import java.util.Arrays;
import java.util.Comparator;

/** Compares answers with those that are due, and ends a test with exit code 1 if one differs. */
final class Check {
    interface Call {
        Object answer();
    }

    private static final int MOST_PRINTED = 20;

    private static int compared = 0;
    private static int wrong = 0;

    private Check() {
    }

    static void same(String call, Object got, Object due) {
        compared++;
        if (!due.equals(got)) {
            wrong++;
            if (wrong <= MOST_PRINTED) {
                System.out.println(call + " answered " + got + ", due is " + due);
            }
        }
    }

    /** The answer of a call, or "throws" and the name of what it throws. */
    static Object answerOf(Call call) {
        try {
            return call.answer();
        } catch (Throwable thrown) {
            return "throws " + thrown.getClass().getName();
        }
    }

    static void fails(String name, Class<?> due, Call call) {
        same(name, answerOf(call), "throws " + due.getName());
    }

    /** The call fails and changes nothing that the digest shows. */
    static void failsUnchanged(String name, AssignmentDesk desk, Class<?> due, Call call) {
        long before = desk.digest();
        fails(name, due, call);
        same("digest() behind " + name, desk.digest(), before);
    }

    /**
     * Runs every method without parameters whose name begins with "promise" or "description": so
     * that none can be written and left out. One that throws counts as a wrong answer.
     */
    static void runAll(Class<?> tests) {
        Method[] methods = tests.getDeclaredMethods();
        Arrays.sort(methods, Comparator.comparing(Method::getName));
        int run = 0;
        for (Method method : methods) {
            boolean isTest = method.getName().matches("(promise|description).*");
            if (isTest && method.getParameterCount() == 0) {
                run++;
                run(method);
            }
        }
        System.out.println(run + " tests");
        end();
    }

    private static void run(Method method) {
        int wrongBefore = wrong;
        try {
            method.setAccessible(true);
            method.invoke(null);
        } catch (InvocationTargetException | IllegalAccessException failure) {
            wrong++;
            System.out.println(method.getName() + " ended with " + failure.getCause());
        }
        if (wrong != wrongBefore) {
            System.out.println("WRONG: " + method.getName());
        }
    }

    static void end() {
        System.out.println(compared + " answers compared, " + wrong + " wrong");
        System.exit(wrong == 0 && compared > 0 ? 0 : 1);
    }
}
