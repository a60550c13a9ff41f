/** Counts the answers that are due and those that are not; every test of the project ends with close(). */
final class Check {
    private static int passed = 0;
    private static int failed = 0;

    private Check() {
    }

    static void due(String what, long got, long want) {
        if (got == want) {
            passed++;
            return;
        }
        failed++;
        if (failed <= 50) {
            System.out.println(what + " answered " + got + ", due is " + want);
        }
    }

    static void holds(String what, boolean fact) {
        due(what, fact ? 1 : 0, 1);
    }

    static boolean anyFailed() {
        return failed > 0;
    }

    static void close(String test) {
        System.out.println(test + ": " + passed + " answers as due, " + failed + " not");
        if (failed > 0) {
            System.exit(1);
        }
    }
}
