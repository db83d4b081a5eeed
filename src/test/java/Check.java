import java.util.function.DoubleSupplier;
import java.util.function.IntSupplier;

/** Counts what is not as due; a test ends with exit code 1 if there was anything. */
final class Check {
    static final String BOUNDS = "throws.IndexOutOfBoundsException";
    static final String ARGUMENT = "throws.IllegalArgumentException";
    static final String STATE = "throws.IllegalStateException";

    private static int made;
    private static int wrong;

    private Check() {
    }

    /** What a call answers, or throws. and the simple name of exactly that exception's class. */
    static String answer(IntSupplier call) {
        try {
            return Integer.toString(call.getAsInt());
        } catch (RuntimeException e) {
            return thrown(e);
        }
    }

    /** The library throws the same classes: what it throws by itself is told apart by where it comes from. */
    private static String thrown(RuntimeException e) {
        StackTraceElement[] from = e.getStackTrace();
        boolean byLibrary = from.length > 0 && from[0].getClassName().contains(".");
        return (byLibrary ? "thrown by the library: " : "throws.") + e.getClass().getSimpleName();
    }

    static String answerOfDouble(DoubleSupplier call) {
        try {
            return Double.toString(call.getAsDouble());
        } catch (RuntimeException e) {
            return thrown(e);
        }
    }

    static void due(String what, int due, IntSupplier call) {
        same(what, Integer.toString(due), answer(call));
    }

    static void due(String what, String due, IntSupplier call) {
        same(what, due, answer(call));
    }

    static void dueDouble(String what, double due, DoubleSupplier call) {
        same(what, Double.toString(due), answerOfDouble(call));
    }

    static void same(String what, String due, String got) {
        made++;
        if (!due.equals(got)) {
            wrong++;
            System.out.println(what + " answered " + got + ", due is " + due);
        }
    }

    static void end(String test) {
        System.out.println(test + ": " + made + " answers, " + wrong + " wrong");
        if (wrong > 0 || made == 0) {
            System.exit(1);
        }
    }
}
