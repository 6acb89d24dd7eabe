import java.util.NoSuchElementException;
import java.util.function.IntSupplier;

/** Counts the checks of one test program, and prints every call whose answer is not the one that is due. */
final class Checks {
    static final Class<? extends RuntimeException> INDEX = IndexOutOfBoundsException.class;
    static final Class<? extends RuntimeException> ARGUMENT = IllegalArgumentException.class;
    static final Class<? extends RuntimeException> STATE = IllegalStateException.class;
    static final Class<? extends RuntimeException> MISSING = NoSuchElementException.class;
    static final Class<? extends RuntimeException> ARITHMETIC = ArithmeticException.class;

    private int good = 0;
    private int wrong = 0;
    private String place = "";

    /** What is printed before a wrong answer from here on. */
    void at(String newPlace) {
        place = newPlace;
    }

    int count() {
        return good + wrong;
    }

    void same(String what, Object got, Object due) {
        if (got.equals(due)) {
            good++;
        } else {
            wrong++;
            System.out.println(place + what + " answered " + got + ", due is " + due);
        }
    }

    void yes(String what, boolean got) {
        same(what, got, true);
    }

    void no(String what, boolean got) {
        same(what, got, false);
    }

    /** The class must be the very one: a class below it would come from the machine. */
    void refuses(Class<? extends RuntimeException> due, String what, Runnable call) {
        same(what, outcome(call), "throws." + due.getSimpleName());
    }

    void returns(String what, Runnable call) {
        same(what, outcome(call), "returned");
    }

    static String outcome(Runnable call) {
        try {
            call.run();
            return "returned";
        } catch (RuntimeException e) {
            return "throws." + e.getClass().getSimpleName();
        }
    }

    static String answerOf(IntSupplier call) {
        try {
            return Integer.toString(call.getAsInt());
        } catch (RuntimeException e) {
            return "throws." + e.getClass().getSimpleName();
        }
    }

    void finish() {
        System.out.println("checks: " + good + " passed, " + wrong + " failed");
        if (wrong != 0 || good == 0) {
            System.exit(1);
        }
    }
}
