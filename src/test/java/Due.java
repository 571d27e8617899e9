/** Compares answers with what is due, prints those that differ, and ends the test. */
final class Due {
    private static int compared = 0;
    private static int wrong = 0;

    private Due() {
    }

    static void equal(String call, long got, long want) {
        compared++;
        if (got != want) {
            wrong++;
            // The first ones tell enough; a broken promise could print thousands.
            if (wrong <= 50) {
                System.out.println(call + " answered " + got + ", due is " + want);
            }
        }
    }

    static boolean anyWrong() {
        return wrong > 0;
    }

    static void finish(String test) {
        System.out.println(test + ": " + compared + " answers, " + wrong + " not as due");
        if (wrong > 0 || compared == 0) {
            System.exit(1);
        }
    }
}
