import java.util.function.Consumer;
import java.util.function.Supplier;
import java.util.function.ToIntFunction;

/** Looks at answers, prints each one that is not due, and ends a test with 1 if there was one. */
final class Check {
    private static int looked = 0;
    private static int wrong = 0;
    private static String sentence = "";

    private Check() {
    }

    /** The words of the document that are looked at from here on; a wrong answer tells them. */
    static void sentence(String words) {
        sentence = words;
    }

    static void same(String what, long got, long due) {
        looked++;
        if (got != due) {
            tell(what + " answered " + got + ", due is " + due);
        }
    }

    static void same(String what, String got, String due) {
        looked++;
        if (!got.equals(due)) {
            tell(what + " is\n  " + got + ", due is\n  " + due);
        }
    }

    static void argument(String what, Supplier<CreditLink> made, Consumer<CreditLink> call) {
        refused(what, made, call, "IllegalArgumentException");
    }

    static void state(String what, Supplier<CreditLink> made, Consumer<CreditLink> call) {
        refused(what, made, call, "IllegalStateException");
    }

    static void full(String what, Supplier<CreditLink> made, ToIntFunction<CreditLink> call) {
        CreditLink x = made.get();
        same(what, call.applyAsInt(x), CreditLink.FULL);
        isLikeItsTwin(what, x, made.get());
    }

    static void none(String what, Supplier<CreditLink> made, ToIntFunction<CreditLink> call) {
        CreditLink x = made.get();
        same(what, call.applyAsInt(x), CreditLink.NONE);
        isLikeItsTwin(what, x, made.get());
    }

    private static void refused(
            String what, Supplier<CreditLink> made, Consumer<CreditLink> call, String due) {
        CreditLink x = made.get();
        same(what, thrownBy(call, x), due);
        isLikeItsTwin(what, x, made.get());
    }

    private static String thrownBy(Consumer<CreditLink> call, CreditLink x) {
        try {
            call.accept(x);
        } catch (RuntimeException e) {
            return e.getClass().getSimpleName();
        }
        return "nothing";
    }

    /** A call that changes nothing leaves an object like one that was made so without the call. */
    private static void isLikeItsTwin(String what, CreditLink x, CreditLink twin) {
        same("after " + what + " the state", Link.picture(x), Link.picture(twin));
        same("after " + what + " what goes on", Link.goOn(x), Link.goOn(twin));
    }

    private static void tell(String text) {
        wrong++;
        if (wrong <= 20) {
            System.out.println(sentence.isEmpty() ? text : "\"" + sentence + "\": " + text);
        }
    }

    static void end() {
        if (looked == 0) {
            tell("nothing was looked at");
        }
        if (wrong > 0) {
            System.out.println(wrong + " of " + looked + " answers are wrong");
            System.exit(1);
        }
    }
}
