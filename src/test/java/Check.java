/** Counts the checks of one test program, and prints those that fail. */
final class Check {
    interface Call {
        double answer();
    }

    private static int held = 0;
    private static int wrong = 0;
    private static String topic = "";
    private static int wrongInTopic = 0;

    private Check() {
    }

    static void topic(String next) {
        topic = next;
        wrongInTopic = 0;
    }

    static void due(String what, double got, double want) {
        count(got == want, what + " answered " + got + ", due is " + want);
    }

    static void holds(String what, boolean right) {
        count(right, what);
    }

    /** What is answered is free here, but the call must not throw. */
    static void answers(String what, Call call) {
        try {
            call.answer();
            count(true, what);
        } catch (RuntimeException e) {
            count(false, what + " threw " + e);
        }
    }

    static void illegal(String what, Call call) {
        thrown(what, call, IllegalArgumentException.class);
    }

    static void outOfBounds(String what, Call call) {
        thrown(what, call, IndexOutOfBoundsException.class);
    }

    static void impossible(String what, Call call) {
        thrown(what, call, IllegalStateException.class);
    }

    // The class itself is asked for: what the machine throws is of a class below it.
    private static void thrown(String what, Call call, Class<? extends RuntimeException> want) {
        try {
            double got = call.answer();
            count(false, what + " answered " + got + ", due is " + want.getSimpleName());
        } catch (RuntimeException e) {
            count(e.getClass() == want, what + " threw " + e + ", due is " + want.getSimpleName());
        }
    }

    private static void count(boolean right, String what) {
        if (right) {
            held++;
        } else {
            wrong++;
            wrongInTopic++;
            // A few for each topic, so that no topic hides another one.
            if (wrongInTopic <= 5 && wrong <= 2000) {
                System.out.println(topic + ": " + what);
            }
        }
    }

    static void end(String program) {
        System.out.println(program + ": " + held + " checks held, " + wrong + " did not");
        if (wrong != 0 || held == 0) {
            System.exit(1);
        }
    }
}
