/** What the tests of the project share: an answer or an exception that is due, and the end of a test. */
final class Due {
    static final Class<?> ARGUMENT = IllegalArgumentException.class;
    static final Class<?> STATE = IllegalStateException.class;
    static final Class<?> NO_ELEMENT = java.util.NoSuchElementException.class;

    private static int wrong = 0;
    private static int seen = 0;
    /** The sentence of the document that is being tested; a wrong answer is told with it. */
    private static String sentence = "";

    interface Call {
        long answer();
    }

    interface CallWith {
        long answer(int n);
    }

    private Due() {
    }

    /** What comes next tests these words of the document. */
    static void sentence(String words) {
        sentence = "\"" + words + "\": ";
    }

    static void is(String what, long want, Call call) {
        compare(what, String.valueOf(want), outcome(call));
    }

    static void yes(String what, boolean got) {
        compare(what, "true", String.valueOf(got));
    }

    static void no(String what, boolean got) {
        compare(what, "false", String.valueOf(got));
    }

    static void fails(String what, Class<?> want, Call call) {
        compare(what, want.getSimpleName(), outcome(call));
    }

    /** The call is refused for every number of a list. */
    static void failsForEach(String what, Class<?> want, int[] numbers, CallWith call) {
        for (int n : numbers) {
            fails(what + " " + n, want, () -> call.answer(n));
        }
    }

    /** What is just outside of least .. most, and what is far outside. */
    static int[] outside(int least, int most) {
        return new int[] {least - 1, most + 1, Integer.MIN_VALUE, Integer.MAX_VALUE};
    }

    /** The answer as a text, or the name of what was thrown. */
    static String outcome(Call call) {
        try {
            return String.valueOf(call.answer());
        } catch (RuntimeException e) {
            return e.getClass().getSimpleName();
        }
    }

    static void compare(String what, String want, String got) {
        seen++;
        if (!want.equals(got)) {
            wrong++;
            System.out.println(sentence + what + " answered " + got + ", due is " + want);
        }
    }

    static void end() {
        System.out.println(seen + " answers, " + wrong + " not as due");
        if (wrong != 0 || seen == 0) {
            System.exit(1);
        }
    }
}
