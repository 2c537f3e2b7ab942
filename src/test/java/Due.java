/** Counts the answers that are not as due, and ends a test with what came of it. */
final class Due {
    private final String test;
    private int asked = 0;
    private int wrong = 0;

    Due(String test) {
        this.test = test;
    }

    void is(String call, long want, long got) {
        asked++;
        if (got != want) {
            wrong++;
            System.out.println(test + ": " + call + " answered " + got + ", due is " + want);
        }
    }

    void is(String call, boolean want, boolean got) {
        is(call, want ? 1L : 0L, got ? 1L : 0L);
    }

    void yes(String call, boolean got) {
        is(call, true, got);
    }

    void no(String call, boolean got) {
        is(call, false, got);
    }

    void differs(String call, long other, long got) {
        no(call + " is not " + other, got == other);
    }

    int wrongs() {
        return wrong;
    }

    void end() {
        System.out.println(test + ": " + asked + " answers, " + wrong + " not as due");
        if (wrong != 0) {
            System.exit(1);
        }
    }
}
