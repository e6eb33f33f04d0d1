/** Compares answers with those that are due, prints each that is not, and counts them. */
final class Check {
    interface Call {
        Object run();
    }

    private static int wrong = 0;
    private static int made = 0;
    private static String about = "";

    private Check() {
    }

    /** What is looked at from now on: it is printed before each wrong answer. */
    static void about(String what) {
        about = what;
    }

    static int made() {
        return made;
    }

    static void due(String what, Object got, Object want) {
        made++;
        if (!want.equals(got)) {
            wrong++;
            System.out.println(about + what + ": answered " + got + ", due is " + want);
        }
    }

    /** Answers what the call answers, or the class of what it throws. */
    static Object answer(Call call) {
        try {
            return call.run();
        } catch (RuntimeException thrown) {
            return thrown.getClass();
        }
    }

    static void thrown(String what, Class<? extends RuntimeException> want, Call call) {
        due(what, answer(call), want);
    }

    /** The call is refused for the reason, with the detail and the index of the command. */
    static void refused(String what, BarometerClub club, int reason, int detail, int command, Call call) {
        thrown(what, UnsupportedOperationException.class, call);
        due(what + ", reason", answer(() -> club.reason(0)), reason);
        due(what + ", detail", answer(() -> club.reason(1)), detail);
        due(what + ", command", answer(() -> club.reason(2)), command);
    }

    static void end() {
        System.out.println(made + " answers looked at, " + wrong + " wrong");
        if (wrong > 0) {
            System.exit(1);
        }
    }
}
