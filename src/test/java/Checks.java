/** Counts and prints the answers that are not the ones that are due. */
final class Checks {
    static final String INDEX = "throws.IndexOutOfBoundsException";
    static final String ARGUMENT = "throws.IllegalArgumentException";

    interface Call {
        Object run();
    }

    private int asked = 0;
    private int wrong = 0;

    void same(String name, Object got, Object due) {
        asked++;
        if (!got.equals(due)) {
            wrong++;
            System.out.println(name + " answered " + got + ", due is " + due);
        }
    }

    /** What a call answers; throws. and the name of the exception if it throws one. */
    static Object answer(Call call) {
        try {
            return call.run();
        } catch (RuntimeException e) {
            return "throws." + e.getClass().getSimpleName();
        }
    }

    /** A wrong call throws what is due and changes nothing. */
    void refused(PuddingstoneLine line, String name, String due, Call call) {
        long before = line.digest();
        same(name, answer(call), due);
        same(name + " changed", line.digest() != before, false);
    }

    void end(String test) {
        System.out.println(test + ": " + asked + " answers, " + wrong + " wrong");
        if (wrong != 0) {
            System.exit(1);
        }
    }
}
