/** Looks at answers, prints each one that is not due, and ends a test with 1 if there was one. */
final class Check {
    interface Call {
        void run();
    }

    private static int looked = 0;
    private static int wrong = 0;

    private Check() {
    }

    static void same(String what, long got, long due) {
        looked++;
        if (got != due) {
            tell(what + " answered " + got + ", due is " + due);
        }
    }

    static void same(String what, String got, String due) {
        looked++;
        if (!got.equals(due)) {
            tell(what + " is\n  " + got + ", due is\n  " + due);
        }
    }

    static void argument(String what, CreditLink x, Call call) {
        refused(what, x, call, IllegalArgumentException.class);
    }

    static void state(String what, CreditLink x, Call call) {
        refused(what, x, call, IllegalStateException.class);
    }

    /** What throws changes nothing, so that is looked at here for every call that throws. */
    private static void refused(String what, CreditLink x, Call call, Class<?> due) {
        String before = Link.picture(x);
        same(what, thrownBy(call), due.getSimpleName());
        same("after " + what + " the state", Link.picture(x), before);
    }

    static String thrownBy(Call call) {
        try {
            call.run();
        } catch (RuntimeException e) {
            return e.getClass().getSimpleName();
        }
        return "nothing";
    }

    private static void tell(String text) {
        wrong++;
        if (wrong <= 20) {
            System.out.println(text);
        }
    }

    static void end() {
        if (looked == 0) {
            tell("nothing was looked at");
        }
        if (wrong > 0) {
            System.out.println(wrong + " of " + looked + " answers are wrong");
            System.exit(1);
        }
    }
}
