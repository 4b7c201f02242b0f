import java.util.function.Supplier;

/** Counts checks, prints those that fail, and ends a test's main with exit code 1 if there was one. */
final class Checks {
    private static int made = 0;
    private static int wrong = 0;

    private Checks() {
    }

    static void same(String what, Object got, Object due) {
        made++;
        if (!String.valueOf(got).equals(String.valueOf(due))) {
            wrong++;
            System.out.println(what + " answered " + got + ", due is " + due);
        }
    }

    /** What a call answers, or "throws " and the name of the exception's very class. */
    static String outcome(Supplier<Object> call) {
        try {
            return String.valueOf(call.get());
        } catch (RuntimeException e) {
            return "throws " + e.getClass().getName().replace("java.lang.", "");
        }
    }

    static String outcome(Runnable call) {
        return outcome(() -> {
            call.run();
            return "nothing";
        });
    }

    static boolean tooManyWrong() {
        return wrong > 20;
    }

    static void end(String test) {
        System.out.println(test + ": " + made + " checks, " + wrong + " wrong");
        if (wrong > 0 || made == 0) {
            System.exit(1);
        }
    }
}
