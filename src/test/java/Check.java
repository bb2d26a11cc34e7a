/** Counts the answers that are not due, and ends a test as CI wants it. */
final class Check {
    private final String test;
    private int checks;
    private int wrong;

    Check(String test) {
        this.test = test;
    }

    interface Call {
        long answer();
    }

    /** The call's answer has to be due. */
    void is(String what, long due, Call call) {
        String got;
        try {
            got = Long.toString(call.answer());
        } catch (RuntimeException e) {
            got = "throws " + e.getClass().getSimpleName();
        }
        compare(what, Long.toString(due), got);
    }

    void is(String what, long due, long got) {
        compare(what, Long.toString(due), Long.toString(got));
    }

    /** The call has to throw just this exception. */
    void fails(String what, Class<? extends RuntimeException> due, Call call) {
        String got;
        try {
            got = Long.toString(call.answer());
        } catch (RuntimeException e) {
            got = "throws " + e.getClass().getSimpleName();
        }
        compare(what, "throws " + due.getSimpleName(), got);
    }

    void compare(String what, String due, String got) {
        checks++;
        if (!due.equals(got)) {
            wrong++;
            System.out.println(test + ": " + what + " answered " + got + ", due is " + due);
        }
    }

    void end() {
        System.out.println(test + ": " + checks + " checks, " + wrong + " wrong");
        if (wrong > 0 || checks == 0) {
            System.exit(1);
        }
    }
}
