/**
 * The edges in the document's sections 'Promise 1' to 'Promise 19': a test for each sentence that names
 * one. TextsTest has those of the promises about texts, RefusalsTest that a refused call changes nothing.
 */
public final class EdgesTest {
    private static final int INVALID = AntTrails.INVALID_ARGUMENT;
    private static final int NOT_POSSIBLE = AntTrails.NOT_POSSIBLE;
    private static final int LIMIT = AntTrails.LIMIT_REACHED;
    private static final int NOT_FOUND = AntTrails.NOT_FOUND;
    private static final int LEAST = Integer.MIN_VALUE;
    private static final int MOST = Integer.MAX_VALUE;

    public static void main(String[] args) {
        newObject();
        place();
        path();
        close();
        closeAgain();
        food();
        foodForgets();
        lap();
        lapOfTwoPlaces();
        forget();
        forgetLess();
        set();
        setOutOfBounds();

        pathOf();
        pathOfAtFirst();
        pathOfWays();
        placeOf();
        placeOfFull();
        placeOfStuck();
        placeOfFar();
        placeOfBest();
        best();
        bestOfLap();
        bestAt();

        chance();
        chanceBounds();
        chanceNotThere();
        greedy();
        greedyTies();
        greedyEnds();
        over();
        ant();
        antIsTheNext();
        would();
        wouldOfNone();
        wouldAsLap();
        count();
        countAnts();
        countTrails();
        undo();
        undoEach();
        Check.end("EdgesTest");
    }

    private static void dues(String call, AntTrails x, Question question, int... due) {
        for (int what = 0; what < due.length; what++) {
            Check.due(call + " of " + what, question.ask(x, what), due[what]);
        }
    }

    /** A call that answers something of a ground. */
    private interface Question {
        int ask(AntTrails x, int what);
    }

    private static void newObject() {
        Check.says("Promise 1: Creates a ground without places");
        AntTrails x = new AntTrails();
        dues("count", x, AntTrails::count, 0, 0, 0, 0, 0, 0, 0, 0, 0, 0, 1, 1, 0, 0, INVALID);
        Check.refuses("placeOf(place, 0)", place -> x.placeOf(place, 0), LEAST, -1, 0, 1, MOST);
        Check.refuses("pathOf(path, 0)", path -> x.pathOf(path, 0), LEAST, -1, 0, 1, MOST);
        Check.refuses("food(place)", place -> x.food(place), LEAST, -1, 0, 1, 2, MOST);
        Check.refuses("path(0, place, 1)", place -> x.path(0, place, 1), LEAST, -1, 0, 1, MOST);
        Check.due("chance(0, 0)", x.chance(0, 0), INVALID);
        Check.due("lap(1)", x.lap(1), NOT_POSSIBLE);
        Check.due("ant(0)", x.ant(0), NOT_POSSIBLE);
        Check.due("greedy(0)", x.greedy(0), NOT_POSSIBLE);
        Check.due("would(1, 0)", x.would(1, 0), NOT_POSSIBLE);
        Check.due("undo()", x.undo(), NOT_POSSIBLE);
        Check.due("best(0)", x.best(0), NOT_FOUND);
        Check.due("bestAt(0)", x.bestAt(0), NOT_FOUND);
        Check.due("over()", x.over(), NOT_FOUND);
        Check.due("fault(0)", x.fault(0), NOT_FOUND);
        Check.due("clearText()", x.clearText(), 0);
        Check.due("forget()", x.forget(), 0);
        Check.due("play()", x.play(), 0);
    }

    private static void place() {
        Check.says("Promise 2: Returns its number; LIMIT_REACHED if there are 10");
        AntTrails x = Grounds.of(9);
        Check.due("the tenth", x.place(), 9);
        Check.due("the eleventh", x.place(), LIMIT);
        x.undo();
        Check.due("count(0)", x.count(0), 9);
        Check.due("the tenth again", x.place(), 9);
        Check.due("the eleventh again", x.place(), LIMIT);
    }

    private static void path() {
        Check.says("Promise 3: Returns its number; INVALID_ARGUMENT if an argument is out of range; LIMIT_REACHED if"
            + " there are 16");
        AntTrails x = Grounds.of(3);
        Check.range("path(one, 1, 5)", one -> x.path(one, 1, 5), 0, 2);
        Check.range("path(1, other, 5)", other -> x.path(1, other, 5), 0, 2);
        Check.range("path(0, 2, length)", length -> x.path(0, 2, length), 1, 20);
        Check.due("path(2, 2, 5)", x.path(2, 2, 5), INVALID);
        for (int k = 6; k < 16; k++) {
            Check.due("path(2, 0, 20)", x.path(2, 0, 20), k);
        }
        Check.due("the seventeenth", x.path(2, 0, 20), LIMIT);
        x.undo();
        Check.due("the sixteenth again", x.path(2, 1, 1), 15);
        Check.due("the seventeenth again", x.path(2, 1, 1), LIMIT);
    }

    private static void close() {
        Check.says("Promise 4: Returns how many paths are open then; INVALID_ARGUMENT");
        AntTrails x = Grounds.allPaths(2);
        for (int path = 0; path < 16; path++) {
            Check.due("close(" + path + ", true)", x.close(path, true), 15 - path);
        }
        for (int path = 0; path < 16; path++) {
            Check.due("close(" + path + ", false)", x.close(path, false), path + 1);
        }
        AntTrails y = Grounds.withPaths(1, 1, 1);
        Check.range("close(path, true)", path -> y.close(path, true), 0, 2);
        Check.range("close(path, false)", path -> y.close(path, false), 0, 2);
        Check.due("close(0, true) without paths", Grounds.of(2).close(0, true), INVALID);
        Check.due("close(0, false) without paths", Grounds.of(2).close(0, false), INVALID);
    }

    private static void closeAgain() {
        Check.says("Promise 4: NOT_POSSIBLE if it is so already");
        AntTrails x = Grounds.withPaths(1, 1);
        Check.due("close(1, false) at first", x.close(1, false), NOT_POSSIBLE);
        x.close(1, true);
        Check.due("close(1, true)", x.close(1, true), NOT_POSSIBLE);
        Check.due("close(0, false)", x.close(0, false), NOT_POSSIBLE);
        x.close(1, false);
        Check.due("close(1, false)", x.close(1, false), NOT_POSSIBLE);
    }

    private static void food() {
        Check.says("Promise 5: Returns where it was; INVALID_ARGUMENT; NOT_POSSIBLE if it is there already");
        AntTrails x = Grounds.of(10);
        Check.refuses("food(place)", place -> x.food(place), LEAST, -1, 0, 10, 11, 33, MOST);
        Check.due("food(1)", x.food(1), NOT_POSSIBLE);
        Check.due("food(9)", x.food(9), 1);
        Check.due("food(9) again", x.food(9), NOT_POSSIBLE);
        Check.due("food(1)", x.food(1), 9);
        AntTrails y = Grounds.of(1);
        Check.due("food(0) with one place", y.food(0), INVALID);
        Check.due("food(1) with one place", y.food(1), INVALID);
        y.place();
        Check.due("food(1) with two places", y.food(1), NOT_POSSIBLE);
        Check.due("food(2) with two places", y.food(2), INVALID);
    }

    private static void foodForgets() {
        Check.says("Promise 5: the best way so far is forgotten");
        AntTrails x = Grounds.winding();
        x.lap(1);
        Check.due("food(1) is refused", x.food(1), NOT_POSSIBLE);
        Check.due("food(0) is refused", x.food(0), INVALID);
        Check.due("best(0)", x.best(0), 16);
        x.food(2);
        dues("best", x, AntTrails::best, NOT_FOUND, NOT_FOUND, NOT_FOUND, NOT_FOUND);
        Check.due("bestAt(0)", x.bestAt(0), NOT_FOUND);
        Check.due("pathOf(0, 7)", x.pathOf(0, 7), 0);
        Check.due("placeOf(0, 4)", x.placeOf(0, 4), 0);
        int trail = x.pathOf(1, 3);
        x.set(1, 0);
        x.lap(1);
        Check.due("it is laid no more", x.pathOf(1, 3), trail);
        Check.due("a longer one than it is found", x.best(0), 9);
        x.food(1);
        x.lap(1);
        Check.due("and one that is longer still", x.best(0), 16);
    }

    private static void lap() {
        Check.says("Promise 6: Returns how many ants found the food in them; INVALID_ARGUMENT if laps is out of range");
        AntTrails x = Grounds.withPaths(1);
        Check.range("lap(laps)", laps -> x.lap(laps), 1, 5);
        Check.due("count(3)", x.count(3), 6);
        for (int laps = 1; laps <= 5; laps++) {
            Check.due("lap(" + laps + ")", x.lap(laps), 4 * laps);
        }
        x.close(0, true);
        Check.due("none found it", x.lap(5), 0);
        x.close(0, false);
        x.set(6, 1);
        x.set(0, 5);
        Check.due("all of the most", x.lap(5), 25);
    }

    private static void lapOfTwoPlaces() {
        Check.says("Promise 6: NOT_POSSIBLE if there are fewer than two places");
        AntTrails x = new AntTrails();
        Check.due("lap(1) with none", x.lap(1), NOT_POSSIBLE);
        x.place();
        Check.due("lap(5) with one", x.lap(5), NOT_POSSIBLE);
        x.place();
        Check.due("lap(1) with two", x.lap(1), 0);
        x.undo();
        x.undo();
        Check.due("lap(1) with one again", x.lap(1), NOT_POSSIBLE);
    }

    private static void forget() {
        Check.says("Promise 7: Forgets the best way so far, and makes all trails be the lower bound");
        Check.due("without places", new AntTrails().forget(), 0);
        AntTrails x = Grounds.winding();
        x.path(0, 1, 20);
        x.close(3, true);
        x.lap(1);
        x.set(4, 42);
        x.forget();
        for (int path = 0; path < 4; path++) {
            Check.due("pathOf(" + path + ", 3)", x.pathOf(path, 3), 42);
            Check.due("pathOf(" + path + ", 7)", x.pathOf(path, 7), 0);
        }
        dues("best", x, AntTrails::best, NOT_FOUND, NOT_FOUND, NOT_FOUND, NOT_FOUND);
        x.set(1, 0);
        x.set(2, 1);
        x.set(6, 15);
        x.lap(1);
        Check.due("it is laid no more", x.pathOf(0, 3), 42);
        x.set(6, 60);
        x.lap(1);
        Check.due("one as long as it is found again", x.best(2), 2);
    }

    private static void forgetLess() {
        Check.says("Promise 7: Returns by how much all trails together became less (below 0 if they became more)");
        AntTrails x = Grounds.allPaths(2);
        Check.due("they are so already", x.forget(), 0);
        x.set(4, 11);
        Check.due("one more each", x.forget(), -16);
        x.set(4, 10);
        Check.due("one less each", x.forget(), 16);
        x.close(3, true);
        x.set(4, 99);
        Check.due("closed ones too", x.forget(), -16 * 89);
        x.set(4, 1);
        Check.due("from 99 to 1", x.forget(), 16 * 98);
    }

    private static void set() {
        Check.says("Promise 8: Returns what it was; INVALID_ARGUMENT if an argument is out of range");
        AntTrails x = new AntTrails();
        Check.range("set(what, 1)", what -> x.set(what, what == 0 ? 1 : 60), 0, 6);
        Check.refuses("set(what, 5)", what -> x.set(what, 5), 7, 8, 20, 26, 32, -7);
        Check.due("set(0, 5)", x.set(0, 5), 1);
        Check.due("set(0, 5) again", x.set(0, 5), 5);
        Check.due("set(6, 1)", x.set(6, 1), 60);
    }

    private static void setOutOfBounds() {
        Check.says("Promise 8: (trails that are out of new bounds stay so until the next lap)");
        AntTrails x = Grounds.withPaths(1, 20);
        x.close(1, true);
        x.lap(5);
        int high = x.pathOf(0, 3);
        x.set(5, 100);
        x.set(4, 99);
        Check.due("above the upper one", x.pathOf(0, 3), high);
        Check.due("below the lower one", x.pathOf(1, 3), 10);
        Check.due("count(9)", x.count(9), high);
        x.close(0, true);
        x.food(1);
        x.ant(0);
        x.would(1, 3);
        Check.due("still above", x.pathOf(0, 3), high);
        Check.due("still below", x.pathOf(1, 3), 10);
        Check.due("would(1, 3)", x.would(1, 3), 199);
        x.lap(1);
        Check.due("within the upper one", x.pathOf(0, 3), 100);
        Check.due("within the lower one", x.pathOf(1, 3), 99);
    }

    // What there is.

    private static void pathOf() {
        Check.says("Promise 9: Returns the number; INVALID_ARGUMENT if an argument is out of range");
        AntTrails x = Grounds.allPaths(2);
        Check.range("pathOf(path, 2)", path -> x.pathOf(path, 2), 0, 15);
        Check.range("pathOf(15, what)", what -> x.pathOf(15, what), 0, 7);
        Check.range("pathOf(0, what)", what -> x.pathOf(0, what), 0, 7);
        Check.due("pathOf(16, 8)", x.pathOf(16, 8), INVALID);
        AntTrails y = Grounds.of(2);
        for (int what = -1; what < 9; what++) {
            Check.due("pathOf(0, " + what + ") without paths", y.pathOf(0, what), INVALID);
        }
    }

    private static void pathOfAtFirst() {
        Check.says("Promise 9: 4: 1 if it is closed, otherwise 0; 6: how often ants went along it so far; 7: 1 if it is"
            + " of the best way so far, otherwise 0");
        AntTrails x = Grounds.of(3);
        x.path(2, 0, 20);
        dues("pathOf(0)", x, (of, what) -> of.pathOf(0, what), 2, 0, 20, 10, 0, 11, 0, 0);
        x.path(0, 1, 1);
        x.close(0, true);
        x.lap(1);
        x.close(1, true);
        // 10 - 2 + 4 * 100 + 100
        dues("pathOf(1)", x, (of, what) -> of.pathOf(1, what), 0, 1, 1, 508, 1, 10161, 4, 1);
        dues("pathOf(0)", x, (of, what) -> of.pathOf(0, what), 2, 0, 20, 10, 1, 11, 0, 0);
    }

    private static void pathOfWays() {
        Check.says("Promise 9: 6: how often ants went along it so far");
        AntTrails x = Grounds.of(3);
        x.path(0, 2, 3);
        x.lap(2);
        Check.due("stuck ones too", x.pathOf(0, 6), 8);
        x.path(2, 1, 20);
        x.set(6, 20);
        x.lap(1);
        Check.due("tired ones as far as they go", x.pathOf(0, 6), 12);
        Check.due("and not where they do not", x.pathOf(1, 6), 0);
        x.set(6, 99);
        x.lap(1);
        Check.due("those that find the food", x.pathOf(0, 6), 16);
        Check.due("those that find the food", x.pathOf(1, 6), 4);
        x.forget();
        x.food(2);
        Check.due("it is not forgotten", x.pathOf(0, 6), 16);
    }

    private static void placeOf() {
        Check.says("Promise 10: Returns the number; INVALID_ARGUMENT if an argument is out of range");
        AntTrails x = Grounds.of(10);
        Check.range("placeOf(place, 0)", place -> x.placeOf(place, 0), 0, 9);
        Check.range("placeOf(0, what)", what -> x.placeOf(0, what), 0, 4);
        Check.range("placeOf(9, what)", what -> x.placeOf(9, what), 0, 4);
        AntTrails y = new AntTrails();
        for (int what = -1; what < 6; what++) {
            Check.due("placeOf(0, " + what + ") without places", y.placeOf(0, what), INVALID);
        }
        y.place();
        dues("placeOf(0)", y, (of, what) -> of.placeOf(0, what), 0, 0, 0, 0, 0, INVALID);
        Check.due("placeOf(1, 0) with one place", y.placeOf(1, 0), INVALID);
    }

    private static void placeOfFull() {
        Check.says("Promise 10: 0: open paths there");
        AntTrails x = Grounds.allPaths(3);
        Check.due("all", x.placeOf(0, 0), 16);
        Check.due("all at the other end", x.placeOf(1, 0), 16);
        Check.due("none", x.placeOf(2, 0), 0);
        x.close(15, true);
        Check.due("all but one", x.placeOf(1, 0), 15);
        Check.says("Promise 10: 1: how often ants came there so far (the nest aside)");
        x.lap(2);
        Check.due("the food", x.placeOf(1, 1), 8);
        Check.due("the nest", x.placeOf(0, 1), 0);
        Check.due("elsewhere", x.placeOf(2, 1), 0);
        AntTrails y = Grounds.of(4);
        y.path(0, 2, 1);
        y.path(2, 3, 20);
        y.set(6, 20);
        y.lap(1);
        Check.due("ahead of where they get tired", y.placeOf(2, 1), 4);
        Check.due("behind it", y.placeOf(3, 1), 0);
        y.set(6, 21);
        y.lap(1);
        Check.due("where they get stuck", y.placeOf(3, 1), 4);
    }

    private static void placeOfStuck() {
        Check.says("Promise 10: 2: how often they got stuck there so far");
        AntTrails x = Grounds.of(10);
        x.lap(1);
        Check.due("at the nest", x.placeOf(0, 2), 4);
        x.path(0, 9, 1);
        x.lap(2);
        Check.due("at the last place", x.placeOf(9, 2), 8);
        Check.due("at the nest no more", x.placeOf(0, 2), 4);
        x.food(9);
        x.lap(1);
        Check.due("not at the food", x.placeOf(9, 2), 8);
        x.food(1);
        x.path(9, 1, 20);
        x.set(6, 20);
        x.lap(1);
        Check.due("not where they get tired", x.placeOf(9, 2), 8);
    }

    private static void placeOfFar() {
        Check.says("Promise 10: 3: how far it is from the nest, by the shortest way of open paths; NOT_FOUND for 3 if"
            + " there is no way");
        AntTrails x = Grounds.of(3);
        Check.due("the nest", x.placeOf(0, 3), 0);
        Check.due("no path", x.placeOf(1, 3), NOT_FOUND);
        x.path(1, 2, 1);
        Check.due("no path from the nest", x.placeOf(2, 3), NOT_FOUND);
        x.path(2, 0, 20);
        Check.due("one path", x.placeOf(2, 3), 20);
        Check.due("two paths", x.placeOf(1, 3), 21);
        x.path(0, 1, 20);
        Check.due("a shorter one", x.placeOf(1, 3), 20);
        x.path(1, 0, 18);
        Check.due("one that goes past the food", x.placeOf(2, 3), 19);
        x.close(3, true);
        Check.due("without the closed one", x.placeOf(2, 3), 20);
        x.close(1, true);
        x.close(2, true);
        Check.due("all are closed", x.placeOf(2, 3), NOT_FOUND);
        Check.due("the nest again", x.placeOf(0, 3), 0);
        // the longest: over all places, by paths whose numbers go towards the nest
        AntTrails y = Grounds.of(10);
        for (int place = 9; place > 0; place--) {
            y.path(place, place - 1, 20);
        }
        AntTrails z = Grounds.of(10);
        for (int place = 1; place < 10; place++) {
            z.path(place - 1, place, 20);
        }
        y.set(6, 1);
        for (int place = 0; place < 10; place++) {
            Check.due("placeOf(" + place + ", 3)", y.placeOf(place, 3), 20 * place);
            Check.due("placeOf(" + place + ", 3), away from the nest", z.placeOf(place, 3), 20 * place);
        }
    }

    private static void placeOfBest() {
        Check.says("Promise 10: 4: 1 if it is on the best way so far, otherwise 0");
        AntTrails x = Grounds.of(10);
        Check.due("the nest without one", x.placeOf(0, 4), 0);
        x.food(9);
        x.path(0, 9, 1);
        x.lap(1);
        for (int place = 0; place < 10; place++) {
            Check.due("placeOf(" + place + ", 4)", x.placeOf(place, 4), place == 0 || place == 9 ? 1 : 0);
        }
        x.forget();
        Check.due("the nest when it is forgotten", x.placeOf(0, 4), 0);
        Check.due("the food when it is forgotten", x.placeOf(9, 4), 0);
    }

    private static void best() {
        Check.says("Promise 11: Returns the number; INVALID_ARGUMENT if what is out of range; NOT_FOUND if there is"
            + " none");
        AntTrails x = Grounds.winding();
        dues("best", x, AntTrails::best, NOT_FOUND, NOT_FOUND, NOT_FOUND, NOT_FOUND, INVALID);
        Check.due("best(-1) without one", x.best(-1), INVALID);
        x.set(6, 15);
        x.lap(1);
        Check.due("tired ants find none", x.best(0), NOT_FOUND);
        x.set(6, 16);
        x.lap(1);
        Check.range("best(what)", what -> x.best(what), 0, 3);
        dues("best", x, AntTrails::best, 16, 3, 1, 7, INVALID);
        AntTrails y = Grounds.withPaths(1);
        y.lap(1);
        dues("best", y, AntTrails::best, 1, 1, 0, 1, INVALID);
    }

    private static void bestOfLap() {
        Check.says("Promise 11: 2: the lap in which it was found, from 0");
        AntTrails x = Grounds.withPaths(9);
        x.lap(5);
        Check.due("in the first one", x.best(2), 0);
        x.close(0, true);
        x.path(0, 1, 8);
        x.lap(5);
        Check.due("in the sixth one", x.best(2), 5);
        x.undo();
        Check.due("in the first one again", x.best(2), 0);
        x.forget();
        x.lap(1);
        Check.due("forgotten, laps go on", x.best(2), 5);
        // by 16 + 13 it is 16, 24, 23 and 12: three ants are tired, the fourth one takes the first path
        AntTrails y = Grounds.withPaths(13, 16);
        y.set(0, 1);
        y.set(6, 15);
        y.lap(5);
        Check.due("within five laps", y.best(2), 3);
        Check.due("count(7)", y.count(7), 3);
    }

    private static void bestAt() {
        Check.says("Promise 12: Returns the place; INVALID_ARGUMENT if step is below 0; NOT_FOUND if there is none, or"
            + " it has not so many");
        AntTrails x = Grounds.chain(1, 1, 1, 1, 1, 1, 1, 1, 1);
        Check.due("bestAt(0) without one", x.bestAt(0), NOT_FOUND);
        Check.due("bestAt(MOST) without one", x.bestAt(MOST), NOT_FOUND);
        Check.refuses("bestAt(step) without one", step -> x.bestAt(step), -1, LEAST);
        x.lap(1);
        dues("bestAt", x, AntTrails::bestAt, 0, 2, 3, 4, 5, 6, 7, 8, 9, 1, NOT_FOUND, NOT_FOUND);
        Check.due("bestAt(MOST)", x.bestAt(MOST), NOT_FOUND);
        Check.refuses("bestAt(step)", step -> x.bestAt(step), -1, -2, LEAST);
        // a shorter way after it: what stood behind it is gone
        x.path(0, 1, 1);
        x.close(0, true);
        x.lap(1);
        dues("bestAt", x, AntTrails::bestAt, 0, 1, NOT_FOUND, NOT_FOUND);
        x.forget();
        Check.due("bestAt(0) when it is forgotten", x.bestAt(0), NOT_FOUND);
    }

    // What would be.

    private static void chance() {
        Check.says("Promise 13: Returns the bits of the float; INVALID_ARGUMENT");
        AntTrails x = Grounds.allPaths(10);
        Check.range("chance(place, 15)", place -> x.chance(place, 15), 0, 9);
        Check.range("chance(0, path)", path -> x.chance(0, path), 0, 15);
        int sum = 0;
        for (int path = 0; path < 16; path++) {
            sum += 200 / (path + 1) + 1;
        }
        for (int path = 0; path < 16; path++) {
            int due = Float.floatToIntBits((float) (200 / (path + 1) + 1) / (float) sum);
            Check.due("chance(0, " + path + ")", x.chance(0, path), due);
            Check.due("chance(1, " + path + ")", x.chance(1, path), due);
        }
        AntTrails y = new AntTrails();
        Check.due("chance(0, 0) without places", y.chance(0, 0), INVALID);
        y.place();
        Check.due("chance(0, 0) without paths", y.chance(0, 0), INVALID);
    }

    private static void chanceBounds() {
        Check.says("Promise 13: its weight, as a float, divided by the sum of the weights of the open paths there, as a"
            + " float");
        AntTrails x = Grounds.withPaths(1);
        Check.due("one alone", x.chance(0, 0), 0x3f800000);
        x.path(0, 1, 1);
        Check.due("one of two", x.chance(0, 1), 0x3f000000);
        x.path(0, 1, 1);
        x.path(0, 1, 1);
        Check.due("one of four", x.chance(0, 3), 0x3e800000);
        // a trail of 9999 and one of 1: the weights 199981 and 2
        AntTrails y = Grounds.withPaths(1);
        y.set(0, 5);
        y.set(1, 0);
        y.set(2, 999);
        y.set(3, 9);
        y.set(5, 9999);
        y.lap(5);
        y.set(4, 1);
        y.path(0, 1, 20);
        Check.due("the greatest", y.chance(0, 0), Float.floatToIntBits(199981f / 199983f));
        Check.due("the least", y.chance(0, 1), Float.floatToIntBits(2f / 199983f));
        y.close(0, true);
        Check.due("without the closed one", y.chance(0, 1), 0x3f800000);
    }

    private static void chanceNotThere() {
        Check.says("Promise 13: NOT_FOUND if the path is not there, or closed");
        AntTrails x = Grounds.of(4);
        x.path(0, 1, 5);
        x.path(1, 2, 5);
        Check.due("not there", x.chance(2, 0), NOT_FOUND);
        Check.due("nothing is there", x.chance(3, 0), NOT_FOUND);
        Check.due("at the food", x.chance(1, 0), 0x3f000000);
        x.close(0, true);
        Check.due("closed", x.chance(0, 0), NOT_FOUND);
        Check.due("closed, with another there", x.chance(1, 0), NOT_FOUND);
        Check.due("the other", x.chance(1, 1), 0x3f800000);
        Check.due("closed and not there", x.chance(2, 0), NOT_FOUND);
    }

    private static void greedy() {
        Check.says("Promise 14: Returns the number; INVALID_ARGUMENT if what is out of range; NOT_POSSIBLE if there are"
            + " fewer than two places");
        AntTrails x = new AntTrails();
        dues("greedy without places", x, AntTrails::greedy, NOT_POSSIBLE, NOT_POSSIBLE, NOT_POSSIBLE, NOT_POSSIBLE,
            INVALID);
        x.place();
        dues("greedy with one place", x, AntTrails::greedy, NOT_POSSIBLE, NOT_POSSIBLE, NOT_POSSIBLE, NOT_POSSIBLE,
            INVALID);
        x.place();
        dues("greedy with two places", x, AntTrails::greedy, 0, 0, 0, 0, INVALID);
        Check.range("greedy(what)", what -> x.greedy(what), 0, 3);
        dues("greedy over all", Grounds.chain(20, 20, 20, 20, 20, 20, 20, 20, 20), AntTrails::greedy, 180, 9, 1, 1);
    }

    private static void greedyTies() {
        Check.says("Promise 14: with the greatest trail, of several the shortest, of these the lowest");
        AntTrails x = Grounds.of(4);
        x.path(0, 2, 3);
        x.path(0, 3, 3);
        Check.due("the lowest", x.greedy(3), 2);
        x.path(0, 3, 2);
        Check.due("the shortest", x.greedy(3), 3);
        x.path(0, 2, 2);
        Check.due("the lowest of the shortest", x.greedy(3), 3);
        x.set(4, 11);
        x.path(0, 2, 20);
        Check.due("the greatest trail by 1", x.greedy(0), 20);
        x.path(0, 3, 20);
        Check.due("the lowest of the greatest", x.greedy(3), 2);
        x.path(0, 3, 19);
        Check.due("the shortest of the greatest", x.greedy(3), 3);
        x.close(6, true);
        Check.due("open ones alone", x.greedy(3), 2);
    }

    private static void greedyEnds() {
        Check.says("Promise 14: at each place, until the food, the open path to a place at which it has not been");
        AntTrails x = Grounds.of(4);
        x.path(0, 2, 1);
        x.path(2, 0, 1);
        dues("greedy does not come back", x, AntTrails::greedy, 1, 1, 0, 2);
        x.path(2, 1, 20);
        x.path(1, 3, 1);
        dues("greedy stops at the food", x, AntTrails::greedy, 21, 2, 1, 1);
        x.food(3);
        dues("greedy goes past where it was", x, AntTrails::greedy, 22, 3, 1, 3);
        x.close(2, true);
        dues("greedy ends ahead of a closed one", x, AntTrails::greedy, 1, 1, 0, 2);
        x.close(0, true);
        x.close(1, true);
        dues("greedy ends at the nest", x, AntTrails::greedy, 0, 0, 0, 0);
    }

    private static void over() {
        Check.says("Promise 15: Returns by how much; NOT_FOUND if there is no best one, or no way");
        AntTrails x = Grounds.withPaths(5);
        Check.due("no best one", x.over(), NOT_FOUND);
        x.lap(1);
        Check.due("the shortest", x.over(), 0);
        x.close(0, true);
        Check.due("no way", x.over(), NOT_FOUND);
        x.path(0, 1, 5);
        Check.due("another one as long", x.over(), 0);
        x.path(0, 1, 4);
        Check.due("one longer", x.over(), 1);
        x.forget();
        Check.due("forgotten", x.over(), NOT_FOUND);
        Check.says("Promise 15: (it can be below 0 if paths of it are closed)");
        AntTrails y = Grounds.withPaths(1);
        y.lap(1);
        y.close(0, true);
        y.path(0, 1, 2);
        Check.due("1 - 2", y.over(), -1);
        y.close(1, true);
        y.path(0, 1, 20);
        Check.due("1 - 20", y.over(), -19);
        y.close(0, false);
        Check.due("opened again", y.over(), 0);
    }

    private static void ant() {
        Check.says("Promise 16: Returns the number; INVALID_ARGUMENT if what is out of range; NOT_POSSIBLE if there are"
            + " fewer than two places");
        AntTrails x = new AntTrails();
        dues("ant without places", x, AntTrails::ant, NOT_POSSIBLE, NOT_POSSIBLE, NOT_POSSIBLE, INVALID);
        x.place();
        dues("ant with one place", x, AntTrails::ant, NOT_POSSIBLE, NOT_POSSIBLE, NOT_POSSIBLE, INVALID);
        x.place();
        dues("ant with two places", x, AntTrails::ant, 1, 0, 0, INVALID);
        Check.range("ant(what)", what -> x.ant(what), 0, 2);
        AntTrails y = Grounds.chain(11, 11, 11, 11, 11, 11, 11, 11, 11);
        y.set(6, 99);
        dues("ant over all places", y, AntTrails::ant, 0, 99, 1, INVALID);
        y.set(6, 98);
        dues("ant that is tired at last", y, AntTrails::ant, 2, 88, 9, INVALID);
        y.close(8, true);
        dues("ant that is stuck at last", y, AntTrails::ant, 1, 88, 9, INVALID);
    }

    private static void antIsTheNext() {
        Check.says("Promise 16: Tells how an ant would end that goes now");
        AntTrails x = Grounds.of(3);
        x.path(0, 1, 9);
        x.path(0, 2, 9);
        x.path(0, 1, 19);
        x.set(0, 1);
        x.set(6, 18);
        int[] reasons = new int[3];
        for (int k = 0; k < 60; k++) {
            int end = x.ant(0);
            int ended = x.count(5 + end);
            Check.due("ant(0) again", x.ant(0), end);
            x.lap(1);
            Check.due("the ant of the next lap ended so", x.count(5 + end), ended + 1);
            reasons[end]++;
        }
        for (int reason = 0; reason < 3; reason++) {
            Check.due("there are some with " + reason, reasons[reason] > 0 ? 1 : 0, 1);
        }
    }

    private static void would() {
        Check.says("Promise 17: Returns the number; INVALID_ARGUMENT if an argument is out of range; NOT_POSSIBLE if"
            + " there are fewer than two places");
        AntTrails x = new AntTrails();
        dues("would(1) without places", x, (of, what) -> of.would(1, what), NOT_POSSIBLE, NOT_POSSIBLE, NOT_POSSIBLE,
            NOT_POSSIBLE, INVALID);
        x.place();
        dues("would(5) with one place", x, (of, what) -> of.would(5, what), NOT_POSSIBLE, NOT_POSSIBLE, NOT_POSSIBLE,
            NOT_POSSIBLE, INVALID);
        Check.due("would(6, 0) with one place", x.would(6, 0), INVALID);
        x.place();
        dues("would(1) with two places", x, (of, what) -> of.would(1, what), 0, 4, NOT_FOUND, 0, INVALID);
        for (int k = 0; k < 4; k++) {
            int what = k;
            Check.range("would(laps, " + what + ")", laps -> x.would(laps, what), 1, 5);
        }
        Check.range("would(1, what)", what -> x.would(1, what), 0, 3);
    }

    private static void wouldOfNone() {
        Check.says("Promise 17: 0: ants that would find the food; 1: ants that would be stuck; 2: the length of the"
            + " best way then (NOT_FOUND without one); 3: all trails together then");
        AntTrails x = Grounds.withPaths(5);
        x.lap(2);
        dues("would(5) after laps", x, (of, what) -> of.would(5, what), 20, 0, 5);
        x.close(0, true);
        dues("would(5) when it is closed", x, (of, what) -> of.would(5, what), 0, 20, 5);
        x.lap(1);
        x.forget();
        dues("would(1) when it is forgotten", x, (of, what) -> of.would(1, what), 0, 4, NOT_FOUND, 10);
        x.close(0, false);
        dues("would(1) when it is open again", x, (of, what) -> of.would(1, what), 4, 0, 5, 10 - 2 + 80 + 20);
        x.set(6, 4);
        dues("would(1) of tired ones", x, (of, what) -> of.would(1, what), 0, 0, NOT_FOUND, 10);
    }

    private static void wouldAsLap() {
        Check.says("Promise 17: Tells what would be if laps passed now");
        for (int laps = 1; laps <= 5; laps++) {
            AntTrails x = Grounds.of(4);
            x.path(0, 2, 3);
            x.path(0, 3, 4);
            x.path(3, 1, 5);
            x.path(0, 1, 20);
            x.path(2, 3, 9);
            x.set(6, 17);
            x.lap(1);
            int[] would = {x.would(laps, 0), x.would(laps, 1), x.would(laps, 2), x.would(laps, 3)};
            int stuck = x.count(6);
            Check.due("lap(" + laps + ")", x.lap(laps), would[0]);
            Check.due("count(6)", x.count(6) - stuck, would[1]);
            Check.due("best(0)", x.best(0), would[2]);
            Check.due("count(8)", x.count(8), would[3]);
        }
    }

    private static void count() {
        Check.says("Promise 18: Returns the number; INVALID_ARGUMENT if what is out of range");
        AntTrails x = new AntTrails();
        Check.range("count(what)", what -> x.count(what), 0, 26);
        Check.refuses("count(what)", what -> x.count(what), 14, 15, 16, 17, 18, 19, 27, 28, 32);
        int[] first = {4, 20, 100, 1, 10, 1000, 60};
        for (int what = 0; what < 7; what++) {
            Check.due("count(" + (20 + what) + ")", x.count(20 + what), first[what]);
        }
        Check.says("Promise 18: 10: the place of the food (1 at first, also ahead of places)");
        Check.due("count(10)", x.count(10), 1);
        AntTrails y = Grounds.of(10);
        y.food(9);
        Check.due("count(10)", y.count(10), 9);
        Check.says("Promise 18: 0: places; 1: paths; 2: open paths; 12: states in the history; 13: the length of the"
            + " text");
        AntTrails full = Grounds.allPaths(10);
        for (int k = 0; k < 60; k++) {
            full.type(';');
        }
        full.close(15, true);
        full.close(0, true);
        Check.due("count(0)", full.count(0), 10);
        Check.due("count(1)", full.count(1), 16);
        Check.due("count(2)", full.count(2), 14);
        Check.due("count(12)", full.count(12), 4);
        Check.due("count(13)", full.count(13), 60);
    }

    private static void countAnts() {
        Check.says("Promise 18: 3: laps so far; 4: ants so far; 5: ants that found the food so far; 6: ants that got"
            + " stuck so far; 7: ants that got tired so far");
        AntTrails x = Grounds.of(2);
        Check.range("lap(laps)", laps -> x.lap(laps), 1, 5);
        int[] stuck = {6, 24, 0, 24, 0};
        int[] tired = {7, 28, 0, 24, 4};
        int[] found = {9, 38, 10, 24, 4};
        for (int k = 0; k < 5; k++) {
            Check.due("count(" + (3 + k) + ") of stuck ones", x.count(3 + k), stuck[k]);
        }
        x.path(0, 1, 2);
        x.set(6, 1);
        x.lap(1);
        for (int k = 0; k < 5; k++) {
            Check.due("count(" + (3 + k) + ") with tired ones", x.count(3 + k), tired[k]);
        }
        x.set(6, 2);
        x.set(0, 5);
        x.lap(2);
        for (int k = 0; k < 5; k++) {
            Check.due("count(" + (3 + k) + ") with those that found it", x.count(3 + k), found[k]);
        }
        x.forget();
        Check.due("count(4) when the best way is forgotten", x.count(4), 38);
    }

    private static void countTrails() {
        Check.says("Promise 18: 8: all trails together; 9: the greatest trail (0 without paths)");
        AntTrails x = Grounds.of(2);
        Check.due("count(8) without paths", x.count(8), 0);
        Check.due("count(9) without paths", x.count(9), 0);
        x.set(4, 1);
        x.path(0, 1, 1);
        Check.due("count(8) of one", x.count(8), 1);
        Check.due("count(9) of one", x.count(9), 1);
        x.set(4, 99);
        x.path(0, 1, 1);
        x.close(1, true);
        Check.due("count(8) of two", x.count(8), 100);
        Check.due("count(9) of a closed one", x.count(9), 99);
        x.undo();
        x.undo();
        Check.due("count(8) of one again", x.count(8), 1);
        Check.due("count(9) of one again", x.count(9), 1);
        AntTrails y = Grounds.allPaths(2);
        Check.due("count(8) of sixteen", y.count(8), 160);
        Check.due("count(9) of sixteen", y.count(9), 10);
    }

    private static void undo() {
        Check.says("Promise 19: Returns the number of states that are left in the history; NOT_POSSIBLE if it is"
            + " empty");
        AntTrails x = new AntTrails();
        Check.due("undo() at first", x.undo(), NOT_POSSIBLE);
        x.place();
        Check.due("undo() of one", x.undo(), 0);
        Check.due("undo() of none", x.undo(), NOT_POSSIBLE);
        for (int k = 0; k < 9; k++) {
            x.place();
        }
        for (int left = 3; left >= 0; left--) {
            Check.due("undo()", x.undo(), left);
            Check.due("count(12)", x.count(12), left);
            Check.due("count(0)", x.count(0), 5 + left);
        }
        Check.due("undo() of none", x.undo(), NOT_POSSIBLE);
        Check.due("count(0)", x.count(0), 5);
    }

    /** A state in which nothing is as at first, with one free place and one free path. */
    private static AntTrails busy() {
        AntTrails x = Grounds.of(9);
        for (int k = 0; k < 5; k++) {
            x.path(k, k + 1, k + 3);
            x.path(0, k + 4, 7);
            x.path(k + 3, 1, 9);
        }
        x.set(1, 33);
        x.set(2, 777);
        x.close(3, true);
        x.food(4);
        x.lap(5);
        x.set(0, 5);
        x.set(3, 2);
        x.set(4, 7);
        x.set(5, 3000);
        x.set(6, 25);
        x.close(5, true);
        x.lap(3);
        return Grounds.text(x, "l5;c0;p1,0,1;s0,1;s4,99;f2;l5;o3;");
    }

    private static void undoEach() {
        Check.says("Promise 19: Restores the latest state of the history");
        Change[] changes = {AntTrails::place, x -> x.path(1, 8, 20), x -> x.close(0, true), x -> x.close(5, false),
            x -> x.food(1), x -> x.lap(1), x -> x.lap(5), AntTrails::forget, x -> x.set(0, 1), x -> x.set(1, 90),
            x -> x.set(2, 1), x -> x.set(3, 0), x -> x.set(4, 99), x -> x.set(5, 100), x -> x.set(6, 1),
            AntTrails::play};
        String before = Grounds.all(busy());
        for (int k = 0; k < changes.length; k++) {
            AntTrails x = busy();
            boolean refused = changes[k].make(x) <= INVALID;
            Check.due("the change " + k + " is refused", refused ? 1 : 0, 0);
            Check.due("undo()", x.undo(), 3);
            Check.same("the state after undo() of change " + k, Grounds.all(x), before);
        }
        AntTrails x = busy();
        x.lap(5);
        x.play();
        x.food(8);
        x.forget();
        for (int left = 3; left >= 0; left--) {
            Check.due("undo()", x.undo(), left);
        }
        Check.same("the state after four changes were undone", Grounds.all(x), before);
    }

    /** A call that changes a ground. */
    private interface Change {
        int make(AntTrails x);
    }
}
