/**
 * One test for each promise, with answers reckoned by hand from the document. The numbers x that are
 * drawn by from a new object on: 16807, 282475249, 1622650073, 984943658, 1144108930, 470211272.
 */
public final class PromisesTest {
    private static final int INVALID = AntTrails.INVALID_ARGUMENT;
    private static final int NOT_POSSIBLE = AntTrails.NOT_POSSIBLE;
    private static final int LIMIT = AntTrails.LIMIT_REACHED;
    private static final int NOT_FOUND = AntTrails.NOT_FOUND;
    private static final int LEAST = Integer.MIN_VALUE;
    private static final int MOST = Integer.MAX_VALUE;

    public static void main(String[] args) {
        aNewObject();
        places();
        paths();
        closing();
        foods();
        lapsOfAnts();
        lapsByLot();
        lapsWithoutFood();
        bestWayInLaps();
        boundsAndVapour();
        forgetting();
        settings();
        pathQuestions();
        placeQuestions();
        bestQuestions();
        bestSteps();
        chances();
        greedyWays();
        overTheShortest();
        oneAnt();
        whatWouldBe();
        counts();
        undoing();
        undoingEach();
        longestWay();
        typing();
        clearing();
        faultsOfForm();
        faultsOfOrders();
        playing();
        Check.end("PromisesTest");
    }

    private static void aNewObject() {
        AntTrails x = new AntTrails();
        int[] due = {0, 0, 0, 0, 0, 0, 0, 0, 0, 0, 1, 1, 0, 0};
        for (int what = 0; what < due.length; what++) {
            Check.due("1: count(" + what + ")", x.count(what), due[what]);
        }
        int[] settings = {4, 20, 100, 1, 10, 1000, 60};
        for (int what = 0; what < settings.length; what++) {
            Check.due("1: count(2" + what + ")", x.count(20 + what), settings[what]);
        }
        Check.due("1: undo()", x.undo(), NOT_POSSIBLE);
        Check.due("1: best(0)", x.best(0), NOT_FOUND);
    }

    private static void places() {
        AntTrails x = new AntTrails();
        for (int k = 0; k < 10; k++) {
            Check.due("2: place()", x.place(), k);
        }
        x.undo();
        x.undo();
        x.place();
        Check.due("2: place() after undo", x.place(), 9);
        int states = x.count(12);
        Check.due("2: an eleventh place()", x.place(), LIMIT);
        Check.due("2: count(0)", x.count(0), 10);
        Check.due("2: count(12)", x.count(12), states);
    }

    private static void paths() {
        AntTrails x = Grounds.of(3);
        x.set(4, 33);
        Check.due("3: path(0, 1, 1)", x.path(0, 1, 1), 0);
        Check.due("3: path(1, 0, 20)", x.path(1, 0, 20), 1);
        Check.due("3: the trail of a new path", x.pathOf(0, 3), 33);
        int[][] wrong = {{0, 0, 5}, {0, 3, 5}, {3, 0, 5}, {-1, 0, 5}, {0, -1, 5}, {0, 1, 0}, {0, 1, 21},
            {0, 1, LEAST}, {0, 1, MOST}, {LEAST, MOST, 5}, {MOST, LEAST, 5}};
        for (int[] w : wrong) {
            Check.due("3: path(" + w[0] + ", " + w[1] + ", " + w[2] + ")", x.path(w[0], w[1], w[2]), INVALID);
        }
        Check.due("3: count(1)", x.count(1), 2);
        for (int k = 2; k < 16; k++) {
            Check.due("3: path(1, 2, 3)", x.path(1, 2, 3), k);
        }
        Check.due("3: a path too many", x.path(1, 2, 3), LIMIT);
        Check.due("3: a wrong path too many", x.path(1, 1, 3), INVALID);
        Check.due("3: count(1) at last", x.count(1), 16);
    }

    private static void closing() {
        AntTrails x = Grounds.of(2);
        x.path(0, 1, 1);
        x.path(0, 1, 2);
        x.path(0, 1, 3);
        Check.due("4: close(1, false)", x.close(1, false), NOT_POSSIBLE);
        Check.due("4: close(1, true)", x.close(1, true), 2);
        Check.due("4: close(1, true) again", x.close(1, true), NOT_POSSIBLE);
        Check.due("4: close(2, true)", x.close(2, true), 1);
        Check.due("4: closed ones", x.pathOf(0, 4) * 4 + x.pathOf(1, 4) * 2 + x.pathOf(2, 4), 3);
        Check.due("4: close(1, false)", x.close(1, false), 2);
        Check.due("4: close(3, true)", x.close(3, true), INVALID);
        Check.due("4: close(-1, false)", x.close(-1, false), INVALID);
        Check.due("4: close(MOST, true)", x.close(MOST, true), INVALID);
        Check.due("4: close(32, true)", x.close(32, true), INVALID);
    }

    private static void foods() {
        AntTrails x = Grounds.of(1);
        Check.due("5: food(1) with one place", x.food(1), INVALID);
        x.place();
        x.place();
        Check.due("5: food(1)", x.food(1), NOT_POSSIBLE);
        Check.due("5: food(0)", x.food(0), INVALID);
        Check.due("5: food(3)", x.food(3), INVALID);
        Check.due("5: food(LEAST)", x.food(LEAST), INVALID);
        x.path(0, 1, 4);
        x.lap(1);
        int trail = x.pathOf(0, 3);
        Check.due("5: best(0) ahead", x.best(0), 4);
        Check.due("5: food(2)", x.food(2), 1);
        Check.due("5: best(0) then", x.best(0), NOT_FOUND);
        Check.due("5: the trail stays", x.pathOf(0, 3), trail);
        Check.due("5: count(10)", x.count(10), 2);
        Check.due("5: food(1) then", x.food(1), 2);
        Check.due("5: best(0) stays forgotten", x.best(0), NOT_FOUND);
    }

    private static void lapsOfAnts() {
        AntTrails x = Grounds.of(1);
        Check.due("6: lap(0) with one place", x.lap(0), INVALID);
        Check.due("6: lap(1) with one place", x.lap(1), NOT_POSSIBLE);
        x.place();
        x.path(1, 0, 3);
        Check.due("6: lap(0)", x.lap(0), INVALID);
        Check.due("6: lap(6)", x.lap(6), INVALID);
        Check.due("6: lap(LEAST)", x.lap(LEAST), INVALID);
        Check.due("6: lap(1)", x.lap(1), 4);
        // 10 - 2 + 4 * 33 + 33
        Check.due("6: the trail", x.pathOf(0, 3), 173);
        Check.due("6: x after four draws", x.count(11), 984943658);
        Check.due("6: laps", x.count(3), 1);
        Check.due("6: walked", x.pathOf(0, 6), 4);
        Check.due("6: came", x.placeOf(1, 1), 4);
        Check.due("6: the nest aside", x.placeOf(0, 1), 0);
        // 173 - 34 + 165 = 304, 304 - 60 + 165 = 409
        Check.due("6: lap(2)", x.lap(2), 8);
        Check.due("6: the trail after three laps", x.pathOf(0, 3), 409);
        Check.due("6: found so far", x.count(5), 12);
        Check.due("6: lap(5)", x.lap(5), 20);
        Check.due("6: lap(5) is one change", x.count(12), 4);
        x.undo();
        Check.due("6: the laps ahead of it", x.count(3), 3);
    }

    private static void lapsByLot() {
        AntTrails x = Grounds.of(2);
        x.path(0, 1, 1);
        x.path(0, 1, 2);
        Check.due("6: weights", x.pathOf(0, 5) * 1000 + x.pathOf(1, 5), 201101);
        // drawn by 302: 197, 153, 147, 254
        Check.due("6: lap(1)", x.lap(1), 4);
        Check.due("6: along the first one", x.pathOf(0, 6), 3);
        Check.due("6: along the second one", x.pathOf(1, 6), 1);
        Check.due("6: the first trail", x.pathOf(0, 3), 8 + 300 + 100);
        Check.due("6: the second trail", x.pathOf(1, 3), 8 + 50);

        x = Grounds.of(2);
        x.path(0, 1, 3);
        x.path(0, 1, 5);
        x.set(0, 1);
        x.lap(1);
        Check.due("6: 16807 by 67 + 41 is 67: the second one", x.pathOf(1, 6), 1);

        x = Grounds.of(2);
        x.path(0, 1, 12);
        x.path(0, 1, 17);
        x.set(0, 1);
        x.lap(1);
        Check.due("6: 16807 by 17 + 12 is 16: the first one", x.pathOf(0, 6), 1);
        Check.due("6: one ant", x.count(4), 1);
    }

    private static void lapsWithoutFood() {
        AntTrails x = Grounds.of(3);
        Check.due("6: lap(1) without paths", x.lap(1), 0);
        Check.due("6: stuck at the nest", x.placeOf(0, 2), 4);
        Check.due("6: nothing is drawn then", x.count(11), 1);
        x.path(0, 2, 3);
        x.set(0, 2);
        Check.due("6: lap(1) to a dead end", x.lap(1), 0);
        Check.due("6: stuck at the dead end", x.placeOf(2, 2), 2);
        Check.due("6: one alone is drawn too", x.count(11), 282475249);
        Check.due("6: stuck ants lay nothing", x.pathOf(0, 3), 10);
        Check.due("6: but they went along it", x.pathOf(0, 6), 2);
        x.path(2, 1, 4);
        x.set(6, 6);
        Check.due("6: lap(1) of tired ants", x.lap(1), 0);
        Check.due("6: tired", x.count(7), 2);
        Check.due("6: stuck", x.count(6), 6);
        Check.due("6: tired ones are not stuck there", x.placeOf(2, 2), 2);
        Check.due("6: tired ones do not go", x.pathOf(1, 6), 0);
        Check.due("6: tired ones draw", x.count(11), 470211272);
        x.set(6, 7);
        Check.due("6: not longer than setting 6", x.lap(1), 2);
        Check.due("6: the best is that long", x.best(0), 7);
    }

    private static void bestWayInLaps() {
        AntTrails x = Grounds.of(2);
        x.path(0, 1, 4);
        x.lap(2);
        Check.due("6: the best is of the first lap", x.best(2), 0);
        x.close(0, true);
        int trail = x.pathOf(0, 3);
        x.lap(1);
        Check.due("6: the best is laid though closed", x.pathOf(0, 3), trail - trail * 20 / 100 + 25);
        x.path(0, 1, 4);
        x.lap(1);
        Check.due("6: one as long is no better", x.best(3), 1);
        x.path(0, 1, 3);
        x.close(1, true);
        x.lap(1);
        Check.due("6: a shorter one is better", x.best(3), 4);
        Check.due("6: found in the lap", x.best(2), 4);
        // The new one is laid in its lap already: 10 - 2 + 4 * 33 + 33.
        Check.due("6: the better one is laid", x.pathOf(2, 3), 173);

        x = Grounds.of(2);
        x.path(0, 1, 7);
        x.set(2, 20);
        x.set(3, 9);
        x.set(0, 1);
        x.lap(1);
        // 20 / 7 = 2 first, and 9 times that then: 10 - 2 + 2 + 18.
        Check.due("6: divided ahead of times", x.pathOf(0, 3), 28);
        x.set(3, 0);
        x.lap(1);
        Check.due("6: no more for the best", x.pathOf(0, 3), 28 - 5 + 2);
        x.set(2, 6);
        x.lap(1);
        Check.due("6: 6 / 7 is nothing", x.pathOf(0, 3), 20);
    }

    private static void boundsAndVapour() {
        AntTrails x = Grounds.of(3);
        x.path(0, 1, 1);
        x.path(0, 2, 1);
        x.close(1, true);
        x.set(4, 1);
        x.set(1, 25);
        int[] due = {8, 6, 5, 4, 3, 3};
        for (int trail : due) {
            x.lap(1);
            Check.due("6: vapour of a closed one", x.pathOf(1, 3), trail);
        }
        Check.due("6: at most the upper bound", x.pathOf(0, 3), 1000);
        x.set(1, 90);
        x.lap(5);
        // 3 - 2, and 1 - 0 then
        Check.due("6: vapour is rounded down", x.pathOf(1, 3), 1);
        x.set(1, 0);
        x.set(4, 99);
        Check.due("6: out of bounds until the next lap", x.pathOf(1, 3), 1);
        x.lap(1);
        Check.due("6: at least the lower bound", x.pathOf(1, 3), 99);
        x.set(5, 100);
        Check.due("6: above it until the next lap", x.pathOf(0, 3), 1000);
        x.lap(1);
        Check.due("6: the upper bound", x.pathOf(0, 3), 100);
    }

    private static void forgetting() {
        AntTrails x = Grounds.of(2);
        Check.due("7: forget() without paths", x.forget(), 0);
        Check.due("7: it is a change", x.count(12), 3);
        x.path(0, 1, 3);
        x.path(0, 1, 3);
        x.close(1, true);
        x.lap(1);
        Check.due("7: all trails", x.count(8), 173 + 10);
        Check.due("7: forget()", x.forget(), 163);
        Check.due("7: a trail", x.pathOf(0, 3), 10);
        Check.due("7: best(0)", x.best(0), NOT_FOUND);
        Check.due("7: what was counted stays", x.count(5), 4);
        Check.due("7: laps stay", x.count(3), 1);
        x.set(4, 99);
        Check.due("7: more then", x.forget(), -178);
        Check.due("7: of the closed one too", x.pathOf(1, 3), 99);
    }

    private static void settings() {
        AntTrails x = new AntTrails();
        int[] first = {4, 20, 100, 1, 10, 1000, 60};
        int[] least = {1, 0, 1, 0, 1, 100, 1};
        int[] most = {5, 90, 999, 9, 99, 9999, 99};
        for (int what = 0; what < 7; what++) {
            String set = "8: set(" + what;
            Check.due(set + ", below)", x.set(what, least[what] - 1), INVALID);
            Check.due(set + ", above)", x.set(what, most[what] + 1), INVALID);
            Check.due(set + ", LEAST)", x.set(what, LEAST), INVALID);
            Check.due(set + ", MOST)", x.set(what, MOST), INVALID);
            Check.due(set + ", least)", x.set(what, least[what]), first[what]);
            Check.due(set + ", most)", x.set(what, most[what]), least[what]);
            Check.due(set + ", most) again", x.set(what, most[what]), most[what]);
            Check.due("8: count", x.count(20 + what), most[what]);
        }
        Check.due("8: set(-1, 5)", x.set(-1, 5), INVALID);
        Check.due("8: set(7, 5)", x.set(7, 5), INVALID);
        Check.due("8: set(MOST, 5)", x.set(MOST, 5), INVALID);
        Check.due("8: set(LEAST, 5)", x.set(LEAST, 5), INVALID);
        Check.due("8: setting what it is already is a change", x.count(12), 4);
    }

    private static void pathQuestions() {
        AntTrails x = Grounds.of(3);
        x.path(2, 1, 6);
        x.path(0, 2, 7);
        x.path(2, 0, 20);
        x.close(2, true);
        x.lap(1);
        // the way is 13 long: 10 - 2 + 4 * 7 + 7 = 43
        int[][] due = {{2, 1, 6, 43, 0, 144, 4, 1}, {0, 2, 7, 43, 0, 123, 4, 1}, {2, 0, 20, 10, 1, 11, 0, 0}};
        for (int path = 0; path < 3; path++) {
            for (int what = 0; what < 8; what++) {
                Check.due("9: pathOf(" + path + ", " + what + ")", x.pathOf(path, what), due[path][what]);
            }
        }
        Check.due("9: pathOf(3, 0)", x.pathOf(3, 0), INVALID);
        Check.due("9: pathOf(-1, 0)", x.pathOf(-1, 0), INVALID);
        Check.due("9: pathOf(0, 8)", x.pathOf(0, 8), INVALID);
        Check.due("9: pathOf(0, -1)", x.pathOf(0, -1), INVALID);
        Check.due("9: pathOf(MOST, LEAST)", x.pathOf(MOST, LEAST), INVALID);
    }

    private static void placeQuestions() {
        AntTrails x = Grounds.of(5);
        x.path(0, 2, 9);
        x.path(0, 3, 2);
        x.path(3, 2, 3);
        x.path(2, 1, 1);
        x.path(0, 1, 20);
        x.path(4, 0, 20);
        x.close(5, true);
        Check.due("10: open paths at the nest", x.placeOf(0, 0), 3);
        Check.due("10: open paths at 4", x.placeOf(4, 0), 0);
        int[] far = {0, 6, 5, 2, NOT_FOUND};
        for (int place = 0; place < 5; place++) {
            Check.due("10: placeOf(" + place + ", 3)", x.placeOf(place, 3), far[place]);
            Check.due("10: placeOf(" + place + ", 4) without a best one", x.placeOf(place, 4), 0);
        }
        x.close(2, true);
        Check.due("10: farther then", x.placeOf(1, 3), 10);
        x.close(0, true);
        x.close(4, true);
        Check.due("10: no way", x.placeOf(1, 3), NOT_FOUND);
        Check.due("10: the food is passed by", x.close(4, false), 3);
        Check.due("10: behind the food", x.placeOf(2, 3), 21);
        x.close(1, true);
        x.lap(1);
        int[] onBest = {1, 1, 0, 0, 0};
        for (int place = 0; place < 5; place++) {
            Check.due("10: placeOf(" + place + ", 4)", x.placeOf(place, 4), onBest[place]);
        }
        Check.due("10: came to the food", x.placeOf(1, 1), 4);
        Check.due("10: nobody is stuck at the food", x.placeOf(1, 2), 0);
        Check.due("10: nobody came elsewhere", x.placeOf(2, 1) + x.placeOf(4, 1), 0);
        x.close(4, true);
        x.lap(2);
        Check.due("10: stuck at the nest", x.placeOf(0, 2), 8);
        Check.due("10: nobody comes to the nest", x.placeOf(0, 1), 0);
        Check.due("10: placeOf(5, 0)", x.placeOf(5, 0), INVALID);
        Check.due("10: placeOf(-1, 0)", x.placeOf(-1, 0), INVALID);
        Check.due("10: placeOf(0, 5)", x.placeOf(0, 5), INVALID);
        Check.due("10: placeOf(4, -1)", x.placeOf(4, -1), INVALID);
    }

    private static void bestQuestions() {
        AntTrails x = Grounds.winding();
        for (int what = 0; what < 4; what++) {
            Check.due("11: best(" + what + ") without one", x.best(what), NOT_FOUND);
        }
        x.close(1, true);
        x.lap(3);
        Check.due("11: none was found", x.best(0), NOT_FOUND);
        x.close(1, false);
        x.lap(2);
        Check.due("11: best(0)", x.best(0), 16);
        Check.due("11: best(1)", x.best(1), 3);
        Check.due("11: best(2)", x.best(2), 3);
        Check.due("11: best(3)", x.best(3), 7);
        Check.due("11: best(4)", x.best(4), INVALID);
        Check.due("11: best(-1)", x.best(-1), INVALID);
        x.forget();
        Check.due("11: best(4) without one", x.best(4), INVALID);
    }

    private static void bestSteps() {
        AntTrails x = Grounds.winding();
        Check.due("12: bestAt(0) without one", x.bestAt(0), NOT_FOUND);
        Check.due("12: bestAt(-1) without one", x.bestAt(-1), INVALID);
        x.lap(1);
        int[] due = {0, 3, 2, 1, NOT_FOUND, NOT_FOUND};
        for (int step = 0; step < due.length; step++) {
            Check.due("12: bestAt(" + step + ")", x.bestAt(step), due[step]);
        }
        Check.due("12: bestAt(MOST)", x.bestAt(MOST), NOT_FOUND);
        Check.due("12: bestAt(LEAST)", x.bestAt(LEAST), INVALID);
    }

    private static void chances() {
        AntTrails x = Grounds.of(3);
        x.path(0, 1, 1);
        Check.due("13: one alone", x.chance(0, 0), Float.floatToIntBits(1f));
        x.path(1, 0, 1);
        Check.due("13: a half", x.chance(0, 1), Float.floatToIntBits(0.5f));
        x.path(2, 0, 1);
        Check.due("13: a third", x.chance(0, 2), Float.floatToIntBits(1f / 3f));
        Check.due("13: elsewhere", x.chance(2, 2), Float.floatToIntBits(1f));
        Check.due("13: not there", x.chance(2, 0), NOT_FOUND);
        x.close(0, true);
        Check.due("13: closed", x.chance(0, 0), NOT_FOUND);
        Check.due("13: without the closed one", x.chance(0, 1), Float.floatToIntBits(0.5f));
        x.path(1, 0, 20);
        Check.due("13: a small one", x.chance(1, 3), Float.floatToIntBits(11f / 212f));
        Check.due("13: a great one", x.chance(1, 1), Float.floatToIntBits(201f / 212f));
        x.close(1, true);
        x.close(3, true);
        Check.due("13: none is open", x.chance(1, 1), NOT_FOUND);
        Check.due("13: chance(3, 0)", x.chance(3, 0), INVALID);
        Check.due("13: chance(-1, 0)", x.chance(-1, 0), INVALID);
        Check.due("13: chance(0, 4)", x.chance(0, 4), INVALID);
        Check.due("13: chance(0, -1)", x.chance(0, -1), INVALID);
    }

    private static void greedyDue(String when, AntTrails x, int... due) {
        for (int what = 0; what < due.length; what++) {
            Check.due("14: greedy(" + what + ") " + when, x.greedy(what), due[what]);
        }
    }

    private static void greedyWays() {
        AntTrails x = Grounds.of(1);
        Check.due("14: greedy(0) with one place", x.greedy(0), NOT_POSSIBLE);
        Check.due("14: greedy(4) with one place", x.greedy(4), INVALID);
        x.place();
        greedyDue("without paths", x, 0, 0, 0, 0);
        x.place();
        x.path(0, 1, 9);
        x.path(0, 2, 4);
        greedyDue("takes the shortest of equal trails", x, 4, 1, 0, 2);
        x.path(0, 1, 4);
        greedyDue("takes the lowest of equal lengths", x, 4, 1, 0, 2);
        x.path(2, 0, 1);
        greedyDue("does not go back", x, 1, 1, 0, 2);
        x.path(2, 1, 20);
        greedyDue("goes on to the food", x, 21, 2, 1, 1);
        x.set(6, 1);
        greedyDue("is never tired", x, 21, 2, 1, 1);
        x.close(3, true);
        greedyDue("leaves closed ones out", x, 24, 2, 1, 1);
        x.set(4, 11);
        x.path(0, 1, 20);
        greedyDue("takes the greatest trail", x, 20, 1, 1, 1);
        x.food(2);
        greedyDue("stops at the food alone", x, 40, 2, 1, 2);
        Check.due("14: greedy(-1)", x.greedy(-1), INVALID);
        Check.due("14: greedy(4)", x.greedy(4), INVALID);
        Check.due("14: x stays", x.count(11), 1);
    }

    private static void overTheShortest() {
        AntTrails x = Grounds.of(3);
        Check.due("15: over() at first", x.over(), NOT_FOUND);
        x.path(0, 1, 9);
        Check.due("15: over() without a best one", x.over(), NOT_FOUND);
        x.lap(1);
        Check.due("15: over()", x.over(), 0);
        x.path(0, 2, 3);
        x.path(2, 1, 2);
        Check.due("15: over() with a shorter one", x.over(), 4);
        x.close(2, true);
        x.path(0, 1, 20);
        x.close(0, true);
        Check.due("15: over() with a closed best one", x.over(), -11);
        x.close(3, true);
        Check.due("15: over() without a way", x.over(), NOT_FOUND);
    }

    private static void antDue(String when, AntTrails x, int... due) {
        for (int what = 0; what < due.length; what++) {
            Check.due("16: ant(" + what + ") " + when, x.ant(what), due[what]);
        }
    }

    private static void oneAnt() {
        AntTrails x = Grounds.of(1);
        Check.due("16: ant(0) with one place", x.ant(0), NOT_POSSIBLE);
        Check.due("16: ant(3) with one place", x.ant(3), INVALID);
        x.place();
        x.place();
        antDue("without paths", x, 1, 0, 0);
        x.path(0, 2, 3);
        antDue("to a dead end", x, 1, 3, 2);
        x.path(2, 1, 4);
        antDue("to the food", x, 0, 7, 1);
        x.set(6, 6);
        antDue("that gets tired", x, 2, 3, 2);
        x.set(6, 2);
        antDue("that is tired at once", x, 2, 0, 0);
        x.set(6, 7);
        antDue("that just gets there", x, 0, 7, 1);
        Check.due("16: x stays", x.count(11), 1);
        Check.due("16: nothing is counted", x.count(4) + x.placeOf(2, 1) + x.pathOf(0, 6), 0);
        Check.due("16: ant(3)", x.ant(3), INVALID);
        Check.due("16: ant(-1)", x.ant(-1), INVALID);
        // 16807 by 67 + 51 is 51: the second one, were it the other way round the first
        AntTrails y = Grounds.of(2);
        y.path(0, 1, 4);
        y.path(0, 1, 3);
        antDue("by lot", y, 0, 3, 1);
    }

    private static void whatWouldBe() {
        AntTrails x = Grounds.of(1);
        Check.due("17: would(1, 0) with one place", x.would(1, 0), NOT_POSSIBLE);
        Check.due("17: would(0, 0) with one place", x.would(0, 0), INVALID);
        Check.due("17: would(1, 4) with one place", x.would(1, 4), INVALID);
        x.place();
        Check.due("17: stuck", x.would(2, 1), 8);
        Check.due("17: none found", x.would(2, 0), 0);
        Check.due("17: no best", x.would(2, 2), NOT_FOUND);
        Check.due("17: no trails", x.would(2, 3), 0);
        x.lap(1);
        x.path(0, 1, 3);
        Check.due("17: found", x.would(3, 0), 12);
        Check.due("17: stuck of these laps alone", x.would(3, 1), 0);
        Check.due("17: the best", x.would(3, 2), 3);
        Check.due("17: the trails", x.would(3, 3), 409);
        Check.due("17: nothing changes", x.count(8), 10);
        Check.due("17: no laps pass", x.count(3), 1);
        Check.due("17: no change", x.count(12), 4);
        Check.due("17: x stays", x.count(11), 1);
        Check.due("17: no best one yet", x.best(0), NOT_FOUND);
        x.set(6, 2);
        Check.due("17: tired ones are not stuck", x.would(5, 1), 0);
        Check.due("17: tired ones do not find it", x.would(5, 0), 0);
        Check.due("17: would(6, 0)", x.would(6, 0), INVALID);
        Check.due("17: would(-1, 0)", x.would(-1, 0), INVALID);
        Check.due("17: would(1, -1)", x.would(1, -1), INVALID);
    }

    private static void counts() {
        AntTrails x = Grounds.of(3);
        x.path(0, 1, 3);
        x.path(0, 1, 5);
        x.path(0, 2, 4);
        x.close(1, true);
        x.close(2, true);
        x.lap(1);
        x.close(0, true);
        x.lap(1);
        x.close(0, false);
        x.set(6, 2);
        x.lap(1);
        Grounds.text(x, "hey");
        // the trail: 173, then 173 - 34 + 33 = 172, then 172 - 34 + 33 = 171
        int[] due = {3, 3, 1, 3, 12, 4, 4, 4, 191, 171, 1, 0, 4, 3, INVALID, INVALID, INVALID, INVALID,
            INVALID, INVALID, 4, 20, 100, 1, 10, 1000, 2, INVALID, INVALID};
        for (int what = 0; what < due.length; what++) {
            if (what != 11) {
                Check.due("18: count(" + what + ")", x.count(what), due[what]);
            }
        }
        // the four stuck ones drew nothing
        Check.due("18: count(11)", x.count(11), 1457850878);
        Check.due("18: count(-1)", x.count(-1), INVALID);
        Check.due("18: count(LEAST)", x.count(LEAST), INVALID);
        Check.due("18: count(MOST)", x.count(MOST), INVALID);
    }

    private static void undoing() {
        AntTrails x = new AntTrails();
        Check.due("19: undo() at first", x.undo(), NOT_POSSIBLE);
        x.place();
        x.place();
        x.path(0, 1, 2);
        Check.due("19: states", x.count(12), 3);
        x.set(0, 2);
        x.lap(1);
        x.close(0, true);
        Check.due("19: four at most", x.count(12), 4);
        x.close(0, true);
        x.undo();
        Check.due("19: close is undone", x.pathOf(0, 4), 0);
        Check.due("19: undo() of lap", x.undo(), 2);
        Check.due("19: laps", x.count(3), 0);
        Check.due("19: undo() of set", x.undo(), 1);
        Check.due("19: the setting", x.count(20), 4);
        Check.due("19: undo() of path", x.undo(), 0);
        Check.due("19: paths", x.count(1), 0);
        Check.due("19: the oldest is dropped", x.undo(), NOT_POSSIBLE);
        Check.due("19: places stay", x.count(0), 2);
        Grounds.text(x, "l1;");
        x.place();
        x.type('l');
        x.undo();
        Check.due("19: the text stays", x.count(13), 4);
    }

    private static void undoingEach() {
        AntTrails x = Grounds.winding();
        x.lap(1);
        x.set(2, 7);
        x.food(3);
        x.undo();
        Check.due("19: food() alone is undone", x.count(10) * 100 + x.count(22), 107);
        Check.due("19: the best is back", x.best(0), 16);
        x.close(0, true);
        x.set(2, 8);
        x.undo();
        Check.due("19: set() alone is undone", x.pathOf(0, 4) * 10 + x.count(22), 17);
        x.lap(1);
        x.undo();
        Check.due("19: nobody is stuck again", x.placeOf(3, 2) + x.placeOf(0, 2), 0);
        x.forget();
        x.close(0, false);
        x.lap(1);
        Check.due("19: the best is of a later lap", x.best(2), 1);
        x.undo();
        x.undo();
        x.undo();
        Check.due("19: and of the first one again", x.best(2), 0);

        // the place where the oldest state stood is used again
        x = Grounds.of(6);
        x.undo();
        x.undo();
        x.undo();
        Check.due("19: undo() of the last state", x.undo(), 0);
        Check.due("19: places left", x.count(0), 2);
        x.set(0, 1);
        x.place();
        x.undo();
        x.undo();
        Check.due("19: the first state again", x.count(0) * 10 + x.count(20), 24);
    }

    /** Over all places, by paths that are laid from the food on. */
    private static void longestWay() {
        AntTrails x = Grounds.of(10);
        x.food(9);
        for (int place = 9; place > 0; place--) {
            x.path(place - 1, place, place);
        }
        for (int place = 0; place < 10; place++) {
            Check.due("10: placeOf(" + place + ", 3)", x.placeOf(place, 3), place * (place + 1) / 2);
        }
        greedyDue("over all places", x, 45, 9, 1, 9);
        x.path(9, 2, 20);
        Check.due("10: a shorter way from the end", x.placeOf(9, 3), 23);
        Check.due("10: and back from there", x.placeOf(8, 3), 32);
        x.close(9, true);
        Check.due("6: lap(1) over all places", x.lap(1), 4);
        Check.due("11: best(1)", x.best(1), 9);
        Check.due("11: best(3)", x.best(3), 511);
        Check.due("12: bestAt(9)", x.bestAt(9), 9);
        Check.due("12: bestAt(10)", x.bestAt(10), NOT_FOUND);
        Check.due("10: placeOf(9, 1)", x.placeOf(9, 1), 4);
        Check.due("10: placeOf(9, 4)", x.placeOf(9, 4), 1);

        // sixteen paths, the last one there being the best
        AntTrails y = Grounds.of(2);
        for (int k = 20; k > 4; k--) {
            y.path(1, 0, k);
        }
        y.set(4, 99);
        y.set(5, 9999);
        y.lap(5);
        y.lap(5);
        Check.due("11: the last path is the best", y.best(3), 1 << 15);
        Check.due("9: pathOf(15, 7)", y.pathOf(15, 7), 1);
        Check.due("14: and the greatest", y.greedy(0), 5);
        Check.due("15: paths towards the nest", y.over(), 0);
        Check.due("10: how far it is", y.placeOf(1, 3), 5);
        Check.due("18: the greatest trail", y.count(9), y.pathOf(15, 3));
    }

    private static void typing() {
        AntTrails x = new AntTrails();
        Check.due("20: type(31)", x.type(31), INVALID);
        Check.due("20: type(127)", x.type(127), INVALID);
        Check.due("20: type(LEAST)", x.type(LEAST), INVALID);
        Check.due("20: type(65536 + 'l')", x.type(65536 + 'l'), INVALID);
        Check.due("20: type(32)", x.type(32), 1);
        Check.due("20: type(126)", x.type(126), 2);
        for (int k = 3; k <= 60; k++) {
            Check.due("20: type('l')", x.type('l'), k);
        }
        Check.due("20: a character too many", x.type('l'), LIMIT);
        Check.due("20: a wrong one too many", x.type(10), INVALID);
        Check.due("20: the length", x.count(13), 60);
        Check.due("20: it is no change", x.count(12), 0);
    }

    private static void clearing() {
        AntTrails x = Grounds.text(new AntTrails(), "l1;x");
        Check.due("21: clearText()", x.clearText(), 4);
        Check.due("21: clearText() again", x.clearText(), 0);
        Check.due("21: the length", x.count(13), 0);
        Check.due("21: no fault", x.fault(0), NOT_FOUND);
        Check.due("21: it is no change", x.count(12), 0);
        Check.due("21: type", x.type('c'), 1);
    }

    private static void faultDue(AntTrails x, String text, int position, int reason, int cause) {
        Grounds.text(x, text);
        Check.due("22: position of the fault of " + text, x.fault(0), position);
        Check.due("22: reason of the fault of " + text, x.fault(1), reason);
        Check.due("22: cause of the fault of " + text, x.fault(2), cause);
        boolean has = reason != NOT_FOUND;
        if (has) {
            Check.due("22: play() of " + text, x.play(), NOT_POSSIBLE);
        }
    }

    private static void faultsOfForm() {
        String[] texts = {";", " l1;", "x1;", "P0,1,1;", "l", "l;", "l1", "l1,", "l12345;", "l 1;", "l-1;",
            "c", "c,", "c0", "c0 ;", "o;", "o00000;", "f", "fx;", "s1;", "s", "s1", "s1,", "s,1;", "s1,;",
            "s1,2", "s1,2,3;", "s1,12345;", "p", "p0;", "p0,", "p0,1", "p0,1;", "p0,1,", "p0,1,;", "p0,1,2",
            "p0,1,2,3;", "p12345,1,1;", "pp", "l1l1;"};
        int[] causes = {0, 0, 0, 0, 1, 1, 2, 2, 5, 1, 1,
            1, 1, 2, 2, 1, 5, 1, 1, 2, 1, 2, 3, 1, 3,
            4, 4, 7, 1, 2, 3, 4, 4, 5, 5, 6,
            6, 5, 1, 2};
        Check.due("22: as many texts as causes", texts.length, causes.length);
        for (int k = 0; k < texts.length; k++) {
            AntTrails x = Grounds.withPaths(3);
            faultDue(x, texts[k], 0, 1, causes[k]);
            faultDue(x, "l1;s0,0005;" + texts[k], 11, 1, causes[k]);
            Check.due("22: nothing changes", x.count(3) + x.count(20), 4);
        }
        AntTrails x = Grounds.withPaths(3);
        Check.due("22: fault(3)", x.fault(3), INVALID);
        Check.due("22: fault(-1)", x.fault(-1), INVALID);
    }

    private static void faultsOfOrders() {
        AntTrails x = Grounds.of(3);
        faultDue(x, "", NOT_FOUND, NOT_FOUND, NOT_FOUND);
        faultDue(x, "p0,1,3;c0;o0000;f2;s0,5;l5;", NOT_FOUND, NOT_FOUND, NOT_FOUND);
        faultDue(x, "p0,0,3;", 0, 2, INVALID);
        faultDue(x, "p0,3,3;", 0, 2, INVALID);
        faultDue(x, "p0,1,21;", 0, 2, INVALID);
        faultDue(x, "c0;", 0, 2, INVALID);
        faultDue(x, "p0,1,1;o0;", 7, 2, NOT_POSSIBLE);
        faultDue(x, "p0,1,1;c0;c0;", 10, 2, NOT_POSSIBLE);
        faultDue(x, "f0;", 0, 2, INVALID);
        faultDue(x, "f2;f2;", 3, 2, NOT_POSSIBLE);
        faultDue(x, "l1;f1;", 3, 2, NOT_POSSIBLE);
        faultDue(x, "s7,1;", 0, 2, INVALID);
        faultDue(x, "s0,6;", 0, 2, INVALID);
        faultDue(x, "l0;", 0, 2, INVALID);
        faultDue(x, "l9999;", 0, 2, INVALID);
        faultDue(x, "l6;x", 0, 2, INVALID);
        faultDue(x, "l5;x;l6;", 3, 1, 0);
        faultDue(Grounds.of(1), "s0,1;l5;", 5, 2, NOT_POSSIBLE);
        for (int k = 0; k < 15; k++) {
            x.path(0, 1, 1);
        }
        faultDue(x, "p0,1,1;p1,2,1;", 7, 2, LIMIT);
        Check.due("22: nothing changes", x.count(1), 15);
    }

    private static void playing() {
        AntTrails x = new AntTrails();
        Check.due("23: play() of an empty text", x.play(), 0);
        Check.due("23: it is a change", x.count(12), 1);
        x = Grounds.of(3);
        Grounds.text(x, "p0,2,3;p02,001,4;p0,1,20;c2;s0,2;l1;");
        Check.due("23: play()", x.play(), 6);
        Check.due("23: one change", x.count(12), 4);
        Check.due("23: the text stays", x.count(13), 36);
        Check.due("23: paths", x.count(1) * 10 + x.count(2), 32);
        Check.due("23: ants", x.count(4), 2);
        Check.due("23: the best", x.best(0), 7);
        // 100 / 7 = 14: 10 - 2 + 3 * 14
        Check.due("23: a trail", x.pathOf(1, 3), 50);
        Check.due("23: play() again", x.play(), NOT_POSSIBLE);
        Check.due("23: its fault", x.fault(0), 25);
        Check.due("23: nothing is done of it", x.count(1) + x.count(12), 7);
        Grounds.text(x, "o2;f2;l2");
        Check.due("23: play() of one that breaks off", x.play(), NOT_POSSIBLE);
        Check.due("23: nothing is done of that", x.count(10) * 10 + x.count(2), 12);
        x.type(';');
        Check.due("23: play() of the whole one", x.play(), 3);
        Check.due("23: the food", x.count(10), 2);
        Check.due("23: laps", x.count(3), 3);
        Check.due("23: undo()", x.undo(), 3);
        Check.due("23: all is undone", x.count(10) * 10 + x.count(2), 12);
    }
}
