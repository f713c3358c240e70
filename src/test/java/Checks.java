import java.util.List;
import java.util.Objects;

/** Counts what is not as due; a test ends with exit code 1 if there was anything. */
final class Checks {
    /** A call of the class under test. */
    interface Call {
        Object answer();
    }

    /** A call that answers nothing. */
    interface Step {
        void run();
    }

    /** One part of a fraction. */
    interface Part {
        long of(boolean below);
    }

    /** Makes an object in a state that the test needs, the same one each time. */
    interface Maker {
        ClaimTriangle make();
    }

    /** A call on an object that the check makes. */
    interface Use {
        void on(ClaimTriangle x);
    }

    static final String BAD = "IllegalArgumentException";
    static final String STATE = "IllegalStateException";
    static final String UNDEFINED = "ArithmeticException";
    static final String LONG = "UnsupportedOperationException";

    private static String topic = "";
    private static int made = 0;
    private static int wrong = 0;

    private Checks() {
    }

    /** What the checks are about from now on, for the lines that tell of wrong ones. */
    static void about(String newTopic) {
        topic = newTopic;
    }

    static int howMany() {
        return made;
    }

    /** What a call answers as a text, or the name of what it throws, which must be one of four. */
    static String outcome(Call call) {
        try {
            return String.valueOf(call.answer());
        } catch (RuntimeException thrown) {
            String name = thrown.getClass().getSimpleName();
            if (!List.of(BAD, STATE, UNDEFINED, LONG).contains(name)) {
                same("a call that threw " + thrown, "what the document names", name);
            }
            return name;
        }
    }

    static void same(String what, Object due, Object got) {
        made++;
        if (!Objects.equals(due, got)) {
            wrong++;
            System.out.println(topic + what + " answered " + got + ", due is " + due);
        }
    }

    static void answers(String what, long due, Call call) {
        same(what, Long.toString(due), outcome(call));
    }

    static void fails(String what, String due, Call call) {
        same(what, due, outcome(call));
    }

    static void failsDoing(String what, String due, Step step) {
        same(what, due, outcome(() -> {
            step.run();
            return "nothing thrown";
        }));
    }

    static void parts(String what, long above, long below, Part part) {
        answers(what + ", above", above, () -> part.of(false));
        answers(what + ", below", below, () -> part.of(true));
    }

    static void partsFail(String what, String due, Part part) {
        fails(what + ", above", due, () -> part.of(false));
        fails(what + ", below", due, () -> part.of(true));
    }

    /** The call is refused, and the object is then as one on which it was not made. */
    static void refuses(String what, String due, Maker maker, Use use) {
        ClaimTriangle touched = maker.make();
        failsDoing(what, due, () -> use.on(touched));
        same(what + ", what is seen then", Dump.of(maker.make()), Dump.of(touched));
    }

    static void end() {
        System.out.println(made + " checks, " + wrong + " wrong");
        if (wrong != 0 || made == 0) {
            System.exit(1);
        }
    }
}
