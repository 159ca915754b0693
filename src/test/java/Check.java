/** Counts the answers that are as due, and prints those that are not. */
final class Check {
    private static int right = 0;
    private static int wrong = 0;

    private Check() {
    }

    static void due(String call, long got, long want) {
        if (got == want) {
            right++;
        } else {
            wrong++;
            System.out.println(call + " answered " + got + ", due is " + want);
        }
    }

    static void failed(String why) {
        wrong++;
        System.out.println(why);
    }

    /** Ends the program: with exit code 1 if an answer was wrong, or none was looked at. */
    static void end(String name) {
        System.out.println(name + ": " + right + " answers right, " + wrong + " wrong");
        System.exit(wrong == 0 && right > 0 ? 0 : 1);
    }
}
