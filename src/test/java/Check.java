/** Compares answers and exceptions with those that are due, and counts the wrong ones. */
final class Check {
    private static int checks = 0;
    private static int wrong = 0;

    private Check() {
    }

    interface Call {
        Object answer();
    }

    static void same(String what, Object got, Object due) {
        checks++;
        if (!got.equals(due)) {
            tell(what + " is " + got + ", due is " + due);
        }
    }

    static void isThrown(String what, Class<? extends RuntimeException> due, Call call) {
        same(what, answerOf(call), "throws." + due.getSimpleName());
    }

    /** The answer of a call, or the name of its exception behind "throws.". */
    static Object answerOf(Call call) {
        try {
            return call.answer();
        } catch (RuntimeException e) {
            return "throws." + e.getClass().getSimpleName();
        }
    }

    static void end() {
        System.out.println(checks + " checks, " + wrong + " wrong");
        if (wrong > 0 || checks == 0) {
            System.exit(1);
        }
    }

    private static void tell(String text) {
        wrong++;
        if (wrong <= 20) {
            System.out.println("wrong: " + text);
        }
    }
}
