/** What the tests share: a count of the answers that are not as due. */
final class Check {
    private static int wrong = 0;
    private static int asked = 0;

    private Check() {
    }

    static void due(String what, long got, long want) {
        asked++;
        if (got != want) {
            wrong++;
            System.out.println(what + " answered " + got + ", due is " + want);
        }
    }

    static void due(String what, boolean got, boolean want) {
        due(what, got ? 1 : 0, want ? 1 : 0);
    }

    /** Asks of(climber, what) for each number what from 0 on. */
    static void dueOf(String where, RopeMountain x, int climber, int... want) {
        for (int what = 0; what < want.length; what++) {
            due(where + ": of(" + climber + ", " + what + ")", x.of(climber, what), want[what]);
        }
    }

    static boolean isClean() {
        return wrong == 0;
    }

    /** Prints the count and ends the program with 1 if an answer was wrong. */
    static void end() {
        System.out.println(asked + " answers asked, " + wrong + " not as due");
        if (wrong != 0) {
            System.exit(1);
        }
    }
}
