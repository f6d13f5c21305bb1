/** Counts answers that are, and are not, as due; prints each that is not. */
final class Checks {
    private int passed;
    private int failed;

    void due(String call, long got, long want) {
        if (got == want) {
            passed++;
        } else {
            failed++;
            System.out.println(call + " answered " + got + ", due is " + want);
        }
    }

    void holds(String what, boolean is) {
        if (is) {
            passed++;
        } else {
            failed++;
            System.out.println("does not hold: " + what);
        }
    }

    boolean anyFailed() {
        return failed > 0;
    }

    void end() {
        System.out.println(passed + " answers as due, " + failed + " not");
        if (failed > 0 || passed == 0) {
            System.exit(1);
        }
    }
}
