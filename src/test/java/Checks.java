import java.util.Objects;

/** Counts what is not as due; a test ends with exit code 1 if there was anything. */
final class Checks {
    /** A call of the class under test. */
    interface Call {
        Object answer();
    }

    /** A call that answers nothing. */
    interface Step {
        void run();
    }

    static final String BAD = "IllegalArgumentException";
    static final String STATE = "IllegalStateException";
    static final String UNDEFINED = "ArithmeticException";
    static final String LONG = "UnsupportedOperationException";

    private static int made = 0;
    private static int wrong = 0;

    private Checks() {
    }

    /** What a call answers as a text, or the name of what it throws. */
    static String outcome(Call call) {
        try {
            return String.valueOf(call.answer());
        } catch (RuntimeException thrown) {
            return thrown.getClass().getSimpleName();
        }
    }

    static void same(String what, Object due, Object got) {
        made++;
        if (!Objects.equals(due, got)) {
            wrong++;
            System.out.println(what + " answered " + got + ", due is " + due);
        }
    }

    static void answers(String what, long due, Call call) {
        same(what, Long.toString(due), outcome(call));
    }

    static void fails(String what, String due, Call call) {
        same(what, due, outcome(call));
    }

    static void failsDoing(String what, String due, Step step) {
        same(what, due, outcome(() -> {
            step.run();
            return "nothing thrown";
        }));
    }

    static void end() {
        System.out.println(made + " checks, " + wrong + " wrong");
        if (wrong != 0 || made == 0) {
            System.exit(1);
        }
    }
}
