/** Counts answers, and tells those that are not as due. */
final class Check {
    private static final int TOLD_MOST = 40;
    private int passed = 0;
    private int failed = 0;

    void due(String call, long got, long want) {
        if (got == want) {
            passed++;
            return;
        }
        failed++;
        if (failed <= TOLD_MOST) {
            System.out.println(call + " answered " + got + ", due is " + want);
        }
    }

    void holds(String what, boolean truth) {
        due(what, truth ? 1 : 0, 1);
    }

    int passed() {
        return passed;
    }

    int failed() {
        return failed;
    }
}
