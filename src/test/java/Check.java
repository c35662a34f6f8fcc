/** Compares answers with those that are due, and ends the test with exit code 1 if one differs. */
final class Check {
    static final Class<IllegalArgumentException> ILLEGAL = IllegalArgumentException.class;
    static final Class<IllegalStateException> STATE = IllegalStateException.class;
    static final Class<IndexOutOfBoundsException> INDEX = IndexOutOfBoundsException.class;

    interface Call {
        Object answer();
    }

    private static String test = "";
    private static int checks = 0;
    private static int wrong = 0;

    private Check() {
    }

    /** What is printed ahead of each wrong answer from now on. */
    static void name(String name) {
        test = name;
    }

    static int checks() {
        return checks;
    }

    static void due(String call, Object want, Call made) {
        compare(call, String.valueOf(want), answerOf(made));
    }

    /** The class must be just this one: a subclass would be one that the machine throws. */
    static void fails(String call, Class<? extends RuntimeException> want, Call made) {
        compare(call, "throws." + want.getSimpleName(), answerOf(made));
    }

    static void compare(String call, String want, String got) {
        checks++;
        if (!want.equals(got)) {
            wrong++;
            System.out.println(test + call + " answered " + got + ", due is " + want);
        }
    }

    static String answerOf(Call made) {
        try {
            return String.valueOf(made.answer());
        } catch (RuntimeException e) {
            return "throws." + e.getClass().getSimpleName();
        }
    }

    static void end() {
        System.out.println(checks + " checks, " + wrong + " wrong");
        if (wrong != 0 || checks == 0) {
            System.exit(1);
        }
    }
}
