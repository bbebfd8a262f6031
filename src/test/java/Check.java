/** Counts answers that are not as due, and ends a test with exit code 1 if there was one. */
final class Check {
    private int wrong;

    void due(String call, long got, long want) {
        if (got != want) {
            wrong++;
            System.out.println(call + " answered " + got + ", due is " + want);
        }
    }

    void dueAll(String call, int[] got, int... want) {
        for (int i = 0; i < want.length; i++) {
            due(call + " [" + i + "]", got[i], want[i]);
        }
    }

    void end(String test) {
        System.out.println(test + ": " + (wrong == 0 ? "all answers are as due" : wrong + " answers are not as due"));
        if (wrong != 0) {
            System.exit(1);
        }
    }
}
