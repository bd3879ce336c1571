/** Keeps the score of one test: every answer that is not the one that is due is printed. */
final class Check {
    private static int asked = 0;
    private static int wrong = 0;

    private Check() {
    }

    static void due(String what, long got, long want) {
        asked++;
        if (got != want) {
            wrong++;
            System.out.println(what + " answered " + got + ", due is " + want);
        }
    }

    static void holds(String what, boolean fact) {
        due(what, fact ? 1 : 0, 1);
    }

    /** To be called last: ends the program with exit code 1 if an answer was wrong. */
    static void end() {
        if (asked == 0) {
            System.out.println("nothing was asked");
        }
        if (wrong != 0 || asked == 0) {
            System.exit(1);
        }
    }
}
