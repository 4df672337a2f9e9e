/** Counts the answers that are not as due, and prints them; finish() ends a test program. */
final class Check {
    interface Call {
        Object answer();
    }

    private static int checks = 0;
    private static int wrong = 0;

    private Check() {
    }

    static void same(String what, Object got, Object due) {
        checks++;
        if (!due.equals(got)) {
            wrong++;
            System.out.println(what + " answered " + got + ", due is " + due);
        }
    }

    /** Checks what a call answers or throws: an exception's simple name, or the answer's text. */
    static void call(String what, Call call, Object due) {
        same(what, outcome(call), String.valueOf(due));
    }

    static String outcome(Call call) {
        try {
            return String.valueOf(call.answer());
        } catch (RuntimeException e) {
            return e.getClass().getSimpleName();
        }
    }

    static int wrong() {
        return wrong;
    }

    static void finish(String program) {
        System.out.println(program + ": " + checks + " checks, " + wrong + " wrong");
        if (wrong != 0) {
            System.exit(1);
        }
    }
}
