/** Counts the answers of a test that are not the due ones, and tells them. */
final class Checks {
    /** What a call counts as that throws an ArithmeticException. */
    static final long THROWN = Long.MIN_VALUE;

    private final String name;
    private int wrong;
    private int right;

    Checks(String name) {
        this.name = name;
    }

    void due(String call, long want, long got) {
        if (got == want) {
            right++;
        } else {
            wrong++;
            System.out.println(name + ": " + call + " answered " + got + ", due is " + want);
        }
    }

    void due(String call, boolean want, boolean got) {
        due(call, want ? 1 : 0, got ? 1 : 0);
    }

    /** What task() answers, or THROWN. */
    static long task(AnswerSums sums, long own, long period, int rank) {
        try {
            return sums.task(own, period, rank);
        } catch (ArithmeticException e) {
            return THROWN;
        }
    }

    void end() {
        System.out.println(name + ": " + right + " as due, " + wrong + " not");
        if (wrong != 0) {
            System.exit(1);
        }
    }
}
