/** Counts calls that answered as due, and prints those that did not. */
final class Due {
    static final int BAD = -1, STATE = -2, FULL = -3, NONE = -9;
    static final long NO = -1000000000000000000L;
    static final int MIN = Integer.MIN_VALUE, MAX = Integer.MAX_VALUE;

    private int passed = 0;
    private int failed = 0;

    void is(String call, long got, long due) {
        if (got == due) {
            passed++;
        } else {
            failed++;
            if (failed <= 40) {
                System.out.println(call + " answered " + got + ", due is " + due);
            }
        }
    }

    void holds(String claim, boolean isSo) {
        is(claim, isSo ? 1 : 0, 1);
    }

    void end() {
        System.out.println("checks: " + passed + " passed, " + failed + " failed");
        if (failed != 0) {
            System.exit(1);
        }
    }
}
