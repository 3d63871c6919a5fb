/** Compares answers with those that are due, and ends a test with exit code 1 if one differs. */
final class Check {
    interface Call {
        Object answer();
    }

    private static final int MOST_PRINTED = 20;

    private static int compared = 0;
    private static int wrong = 0;

    private Check() {
    }

    static void same(String call, Object got, Object due) {
        compared++;
        if (!due.equals(got)) {
            wrong++;
            if (wrong <= MOST_PRINTED) {
                System.out.println(call + " answered " + got + ", due is " + due);
            }
        }
    }

    /** The answer of a call, or "throws" and the name of what it throws. */
    static Object answerOf(Call call) {
        try {
            return call.answer();
        } catch (Throwable thrown) {
            return "throws " + thrown.getClass().getName();
        }
    }

    static void fails(String name, Class<?> due, Call call) {
        same(name, answerOf(call), "throws " + due.getName());
    }

    /** The call fails and changes nothing that the digest shows. */
    static void failsUnchanged(String name, AssignmentDesk desk, Class<?> due, Call call) {
        long before = desk.digest();
        fails(name, due, call);
        same("digest() behind " + name, desk.digest(), before);
    }

    static void end() {
        System.out.println(compared + " answers compared, " + wrong + " wrong");
        System.exit(wrong == 0 && compared > 0 ? 0 : 1);
    }
}
