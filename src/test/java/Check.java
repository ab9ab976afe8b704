/** Counts answers that are as due and tells those that are not. */
final class Check {
    private static int passed = 0;
    private static int failed = 0;

    private Check() {
    }

    static void due(String what, long got, long want) {
        if (got == want) {
            passed++;
            return;
        }
        failed++;
        if (failed <= 100) {
            System.out.println(what + " answered " + got + ", due is " + want);
        }
    }

    static void holds(String what, boolean isSo) {
        due(what, isSo ? 1 : 0, 1);
    }

    /** Lays a text; what it must not answer is told by the caller's own checks. */
    static SwingCranes laid(String text) {
        SwingCranes x = new SwingCranes();
        writeAll(x, text);
        due("lay of " + text + " is no fault", x.lay() == SwingCranes.NO ? 1 : 0, 0);
        return x;
    }

    static void writeAll(SwingCranes x, String text) {
        for (int i = 0; i < text.length(); i++) {
            x.write(text.charAt(i));
        }
    }

    static void tellAndEnd() {
        System.out.println(passed + " passed, " + failed + " failed");
        if (failed != 0) {
            System.exit(1);
        }
    }
}
