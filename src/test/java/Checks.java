import java.util.NoSuchElementException;

/** Counts the checks of one test class that fail, and ends it with exit code 1 if there was one. */
final class Checks {
    /** A call that may throw. */
    interface Call {
        void run();
    }

    private final String test;
    private int made = 0;
    private int wrong = 0;

    Checks(String test) {
        this.test = test;
    }

    void due(String what, long got, long want) {
        made++;
        if (got != want) {
            wrong++;
            System.out.println(test + ": " + what + " answered " + got + ", due is " + want);
        }
    }

    void due(String what, boolean got, boolean want) {
        due(what, got ? 1 : 0, want ? 1 : 0);
    }

    void due(String what, String got, String want) {
        made++;
        if (!got.equals(want)) {
            wrong++;
            System.out.println(test + ": " + what + " answered " + got + ", due is " + want);
        }
    }

    void noElement(String what, Call call) {
        due(what, outcome(call), NoSuchElementException.class.getName());
    }

    void badArgument(String what, Call call) {
        due(what, outcome(call), IllegalArgumentException.class.getName());
    }

    void badState(String what, Call call) {
        due(what, outcome(call), IllegalStateException.class.getName());
    }

    private static String outcome(Call call) {
        try {
            call.run();
            return "nothing thrown";
        } catch (RuntimeException e) {
            return e.getClass().getName();
        }
    }

    void end() {
        System.out.println(test + ": " + (made - wrong) + " of " + made + " checks as due");
        if (wrong != 0) {
            System.exit(1);
        }
    }
}
