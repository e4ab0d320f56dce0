/** Compares answers with those that are due, prints the others and counts them. */
final class Due {
    /** A call of the class under test. */
    interface Call {
        Object answer();
    }

    private int wrong = 0;
    private int looked = 0;

    void is(String call, Object got, Object want) {
        looked++;
        if (!want.equals(got)) {
            wrong++;
            System.out.println(call + " answered " + got + ", due is " + want);
        }
    }

    void refused(String call, Call made, Class<? extends RuntimeException> want) {
        is(call, answerOf(made), thrown(want));
    }

    /** The answer as a text; "throws .." where the call throws. */
    static String answerOf(Call made) {
        try {
            return String.valueOf(made.answer());
        } catch (RuntimeException e) {
            return thrown(e.getClass());
        }
    }

    private static String thrown(Class<?> exception) {
        return "throws " + exception.getSimpleName();
    }

    void end(String name) {
        System.out.println(name + ": " + looked + " answers looked at, " + wrong + " not as due");
        if (wrong != 0 || looked == 0) {
            System.exit(1);
        }
    }
}
