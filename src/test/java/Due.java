/** Compares answers with those that are due, and tells the ones that are not. */
final class Due {
    static final Class<IndexOutOfBoundsException> INDEX = IndexOutOfBoundsException.class;
    static final Class<IllegalArgumentException> ARGUMENT = IllegalArgumentException.class;
    static final Class<IllegalStateException> STATE = IllegalStateException.class;
    private static final int MOST_TOLD = 100;

    private static int wrong = 0;
    private static String sentence = "";

    private Due() {
    }

    interface Call {
        Object answer();
    }

    /** The answers from here on are due by this sentence under "Terms". */
    static void term(String said) {
        sentence = "[Terms: " + said + "] ";
    }

    /** The answers from here on are due by this sentence of a promise. */
    static void promise(int number, String said) {
        sentence = "[Promise " + number + ": " + said + "] ";
    }

    static void is(String call, Object got, Object want) {
        if (!want.equals(got)) {
            wrong++;
            if (wrong <= MOST_TOLD) {
                System.out.println(sentence + call + " answered " + got + ", due is " + want);
            }
        }
    }

    /** The very class is due: each exception of the document is thrown by its own name. */
    static void isThrown(String call, Class<? extends RuntimeException> want, Call made) {
        is(call, outcome(made), "throws." + want.getSimpleName());
    }

    /** The answer of a call, or throws. and the name of what it throws. */
    static Object outcome(Call made) {
        try {
            return made.answer();
        } catch (RuntimeException thrown) {
            return (isThrownByHand(thrown) ? "throws." : "the library throws.") + thrown.getClass().getSimpleName();
        }
    }

    /** An exception of a list's own would bear the right name, but come from the library's code. */
    private static boolean isThrownByHand(RuntimeException thrown) {
        StackTraceElement[] trace = thrown.getStackTrace();
        return trace.length > 0 && trace[0].getClassName().matches("(LanternDesk|Model)(\\$.*)?");
    }

    static void end() {
        if (wrong != 0) {
            System.out.println(wrong + " answers are not as due");
            System.exit(1);
        }
    }
}
