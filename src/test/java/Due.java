/** Counts the answers that are not as due, and ends a test by them. */
final class Due {
    private final String test;
    private int asked = 0;
    private int wrong = 0;

    Due(String test) {
        this.test = test;
    }

    void is(String call, long got, long want) {
        asked++;
        if (got == want) return;
        wrong++;
        System.out.println(test + ": " + call + " answered " + got + ", due is " + want);
    }

    void isTrue(String what, boolean is) {
        asked++;
        if (is) return;
        wrong++;
        System.out.println(test + ": " + what);
    }

    /** Whether nothing was wrong so far. */
    boolean isFine() {
        return wrong == 0;
    }

    void end() {
        System.out.println(test + ": " + asked + " answers, " + wrong + " not as due");
        if (wrong != 0) System.exit(1);
    }
}
