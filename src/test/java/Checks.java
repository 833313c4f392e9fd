/** Counts the answers of a test that are not the ones that are due. */
final class Checks {
    static final Class<?> INDEX = IndexOutOfBoundsException.class;
    static final Class<?> ARGUMENT = IllegalArgumentException.class;
    static final Class<?> STATE = IllegalStateException.class;

    private final String test;
    private int asked;
    private int wrong;

    Checks(String test) {
        this.test = test;
    }

    interface Call {
        Object answer();
    }

    void due(String call, long got, long want) {
        asked++;
        if (got != want) {
            tell(call + " answered " + got + ", due is " + want);
        }
    }

    void due(String call, boolean got, boolean want) {
        due(call, got ? 1L : 0L, want ? 1L : 0L);
    }

    /** The very class is due: what the machine throws is of a class below it. */
    void dueThrow(String call, Class<?> want, Call made) {
        asked++;
        try {
            tell(call + " answered " + made.answer() + ", due is " + want.getName());
        } catch (RuntimeException e) {
            if (e.getClass() != want) {
                tell(call + " threw " + e + ", due is " + want.getName());
            }
        }
    }

    void tell(String line) {
        wrong++;
        if (wrong <= 40) {
            System.out.println(test + ": " + line);
        }
    }

    void end() {
        if (asked == 0 || wrong != 0) {
            System.out.println(test + ": " + wrong + " wrong of " + asked);
            System.exit(1);
        }
        System.out.println(test + ": " + asked + " answers as due");
    }
}
