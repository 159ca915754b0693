import java.util.function.IntUnaryOperator;

/** Counts the answers that are as due, and prints those that are not. */
final class Check {
    private static int right = 0;
    private static int wrong = 0;
    private static String sentence = "";

    private Check() {
    }

    /** Tells by which sentence of the document the answers from here on are due. */
    static void says(String words) {
        sentence = "\"" + words + "\": ";
    }

    static void due(String call, long got, long want) {
        if (got == want) {
            right++;
        } else {
            failed(call + " answered " + got + ", due is " + want);
        }
    }

    static void same(String what, String got, String want) {
        if (got.equals(want)) {
            right++;
        } else {
            failed(what + " is\n  " + got + "\ndue is\n  " + want);
        }
    }

    /** Each of the arguments is one that the call refuses as out of its range. */
    static void refuses(String call, IntUnaryOperator answer, int... arguments) {
        for (int argument : arguments) {
            due(call + " of " + argument, answer.applyAsInt(argument), AntTrails.INVALID_ARGUMENT);
        }
    }

    /** The call takes the least and the greatest argument, and refuses those beyond them. */
    static void range(String call, IntUnaryOperator answer, int least, int greatest) {
        refuses(call, answer, Integer.MIN_VALUE, -65536, least - 1, greatest + 1, greatest + 65536, Integer.MAX_VALUE);
        for (int argument : new int[] {least, greatest}) {
            boolean refused = answer.applyAsInt(argument) == AntTrails.INVALID_ARGUMENT;
            due(call + " refuses " + argument, refused ? 1 : 0, 0);
        }
    }

    static void failed(String why) {
        wrong++;
        System.out.println(sentence + why);
    }

    /** Ends the program: with exit code 1 if an answer was wrong, or none was looked at. */
    static void end(String name) {
        System.out.println(name + ": " + right + " answers right, " + wrong + " wrong");
        System.exit(wrong == 0 && right > 0 ? 0 : 1);
    }
}
