import java.util.Random;

/**
 * Runs of some 450 calls each, the same ones every time, on an AntTrails and on the Model: each must
 * answer the same, and none may throw.
 */
public final class RandomRunsTest {
    private static final int RUNS = 1500;
    private static final int ROUNDS = 300;
    private static final int[] EXTREMES = {Integer.MIN_VALUE, -1000000002, -65, -1, 16, 27, 31, 32, 33, 64,
        127, 128, 60000, 65536, 1 << 30, Integer.MAX_VALUE};

    private final Random random;
    /** How often of 100 an argument is an extreme one. */
    private final int oddities;
    private final AntTrails real = new AntTrails();
    private final Model model = new Model();
    private String untyped = "";

    private RandomRunsTest(int run) {
        random = new Random(run);
        oddities = run % 5 == 0 ? 12 : 1;
    }

    public static void main(String[] args) {
        for (int run = 0; run < RUNS; run++) {
            RandomRunsTest test = new RandomRunsTest(run);
            for (int call = 0; call < ROUNDS; call++) {
                try {
                    test.call("run " + run + ", call " + call + ": ", call < 30);
                } catch (RuntimeException thrown) {
                    Check.failed("run " + run + ", call " + call + " threw " + thrown);
                }
            }
        }
        Check.end("RandomRunsTest");
    }

    private int number(int least, int most) {
        if (random.nextInt(100) < oddities) {
            return random.nextBoolean() ? EXTREMES[random.nextInt(EXTREMES.length)] : random.nextInt();
        }
        return least + random.nextInt(most - least + 1);
    }

    /** A number that is often of one of so many things, and seldom just beside. */
    private int oneOf(int many) {
        return random.nextInt(12) == 0 ? number(-1, many) : number(0, Math.max(0, many - 1));
    }

    private void call(String at, boolean building) {
        int kind = building ? random.nextInt(45) : random.nextInt(200);
        if (kind < 40 || building) {
            changes(at, kind);
        } else if (kind < 75) {
            typeOn(at);
        } else if (kind < 80) {
            Check.due(at + "play()", real.play(), model.play());
        } else if (kind < 83) {
            Check.due(at + "undo()", real.undo(), model.undo());
        } else if (kind < 84) {
            Check.due(at + "clearText()", real.clearText(), model.clearText());
        } else {
            questions(at, random.nextInt(11));
        }
    }

    private void changes(String at, int kind) {
        int places = model.count(0);
        int paths = model.count(1);
        if (kind < 5) {
            Check.due(at + "place()", real.place(), model.place());
        } else if (kind < 15) {
            int one = oneOf(places);
            int other = oneOf(places);
            int length = number(0, 21);
            Check.due(at + "path", real.path(one, other, length), model.path(one, other, length));
        } else if (kind < 20) {
            int path = oneOf(paths);
            boolean closed = random.nextInt(3) == 0;
            Check.due(at + "close", real.close(path, closed), model.close(path, closed));
        } else if (kind < 22) {
            int place = oneOf(places);
            Check.due(at + "food", real.food(place), model.food(place));
        } else if (kind < 34) {
            int laps = number(0, 6);
            Check.due(at + "lap", real.lap(laps), model.lap(laps));
        } else if (kind < 35) {
            Check.due(at + "forget()", real.forget(), model.forget());
        } else {
            int what = number(0, 7);
            int value = number(0, new int[] {6, 91, 1000, 10, 100, 10000, 100, 9}[what & 7]);
            Check.due(at + "set", real.set(what, value), model.set(what, value));
        }
    }

    /** Types a character of an order, now and then another one. */
    private void typeOn(String at) {
        if (untyped.isEmpty()) {
            if (random.nextInt(5) == 0) {
                Check.due(at + "clearText()", real.clearText(), model.clearText());
            }
            untyped = order();
        }
        // A few at once, or no text would ever be long.
        for (int k = 0; k < 4 && !untyped.isEmpty(); k++) {
            int character = random.nextInt(80) == 0 ? number(30, 128) : untyped.charAt(0);
            untyped = untyped.substring(1);
            Check.due(at + "type", real.type(character), model.type(character));
        }
    }

    private String order() {
        int place = Math.max(1, model.count(0));
        int path = Math.max(1, model.count(1));
        int odd = random.nextInt(20) == 0 ? random.nextInt(12000) : 0;
        String zeros = random.nextInt(6) == 0 ? "0".repeat(random.nextInt(4)) : "";
        switch (random.nextInt(6)) {
            case 0:
                return "p" + zeros + random.nextInt(place) + "," + random.nextInt(place) + ","
                    + (1 + odd + random.nextInt(20)) + ";";
            case 1:
                return "c" + zeros + (odd + random.nextInt(path)) + ";";
            case 2:
                return "o" + zeros + (odd + random.nextInt(path)) + ";";
            case 3:
                return "f" + zeros + (odd + random.nextInt(place)) + ";";
            case 4:
                return "s" + zeros + random.nextInt(7) + "," + (odd + random.nextInt(120)) + ";";
            default:
                return "l" + zeros + (odd + 1 + random.nextInt(5)) + ";";
        }
    }

    private void questions(String at, int kind) {
        int place = oneOf(model.count(0));
        int path = oneOf(model.count(1));
        int what = number(-1, 8);
        switch (kind) {
            case 0:
                Check.due(at + "pathOf", real.pathOf(path, what), model.pathOf(path, what));
                break;
            case 1:
                Check.due(at + "placeOf", real.placeOf(place, what), model.placeOf(place, what));
                break;
            case 2:
                Check.due(at + "best", real.best(what), model.best(what));
                break;
            case 3:
                Check.due(at + "bestAt", real.bestAt(what), model.bestAt(what));
                break;
            case 4:
                Check.due(at + "chance", real.chance(place, path), model.chance(place, path));
                break;
            case 5:
                Check.due(at + "greedy", real.greedy(what), model.greedy(what));
                break;
            case 6:
                Check.due(at + "over()", real.over(), model.over());
                break;
            case 7:
                Check.due(at + "ant", real.ant(what), model.ant(what));
                break;
            case 8:
                int laps = number(0, 6);
                Check.due(at + "would", real.would(laps, what), model.would(laps, what));
                break;
            case 9:
                Check.due(at + "fault", real.fault(what), model.fault(what));
                break;
            default:
                int which = number(-1, 27);
                Check.due(at + "count", real.count(which), model.count(which));
                break;
        }
    }
}
