import java.util.function.IntSupplier;

/** Compares answers with those that are due, and prints the ones that differ. */
final class Check {
    /** What a call answers that has to throw; no answer of the program comes near to them. */
    static final int ARGUMENT = -1_000_001;
    static final int STATE = -1_000_002;
    static final int INDEX = -1_000_003;

    private static int compared = 0;
    private static int wrong = 0;

    private Check() {
    }

    static void due(String call, int want, IntSupplier made) {
        compared++;
        int got = answer(made);
        if (got != want) {
            wrong++;
            System.out.println(place() + call + " answered " + text(got)
                + ", due is " + text(want));
        }
    }

    static void due(String call, boolean want, java.util.function.BooleanSupplier made) {
        due(call, want ? 1 : 0, () -> made.getAsBoolean() ? 1 : 0);
    }

    /** Only the very classes that the document names count: the machine throws kinds of them. */
    static int answer(IntSupplier made) {
        try {
            return made.getAsInt();
        } catch (RuntimeException e) {
            if (e.getClass() == IllegalArgumentException.class) {
                return ARGUMENT;
            }
            if (e.getClass() == IllegalStateException.class) {
                return STATE;
            }
            if (e.getClass() == IndexOutOfBoundsException.class) {
                return INDEX;
            }
            throw e;
        }
    }

    /** The test's method and line from which the check was made. */
    private static String place() {
        for (StackTraceElement at : new Throwable().getStackTrace()) {
            if (!at.getClassName().startsWith(Check.class.getName())) {
                return at.getMethodName() + ", line " + at.getLineNumber() + ": ";
            }
        }
        return "";
    }

    static String text(int answer) {
        switch (answer) {
            case ARGUMENT:
                return "throws.IllegalArgumentException";
            case STATE:
                return "throws.IllegalStateException";
            case INDEX:
                return "throws.IndexOutOfBoundsException";
            default:
                return Integer.toString(answer);
        }
    }

    static int wrongOnes() {
        return wrong;
    }

    static void end() {
        System.out.println(compared + " answers compared, " + wrong + " wrong");
        if (wrong != 0 || compared == 0) {
            System.exit(1);
        }
    }
}
