/** Counts the checks of one run and prints those whose answer is not the one that is due. */
final class Due {
    private int passed = 0;
    private int failed = 0;

    void is(String what, long got, long want) {
        if (got == want) {
            passed++;
            return;
        }
        failed++;
        // A broken program fails thousands of checks: the first ones tell enough.
        if (failed <= 40) System.out.println(what + " answered " + got + ", due is " + want);
    }

    int checks() {
        return passed + failed;
    }

    int passed() {
        return passed;
    }

    int failed() {
        return failed;
    }
}
