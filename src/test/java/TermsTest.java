/**
 * The edges in the document's section 'Terms', ahead of its texts: a test for each sentence that names
 * one. The numbers x from a new object on: 16807, 282475249, 1622650073, 984943658, 1144108930. With the
 * first trail, 10, the weights by length are 1: 201, 2: 101, 3: 67, 4: 51, 5: 41, 7: 29, 8: 26, 9: 23,
 * 10: 21, 11: 19, 12: 17, 13: 16, 17: 12, 19 and 20: 11.
 */
public final class TermsTest {
    private static final int INVALID = AntTrails.INVALID_ARGUMENT;
    private static final int NOT_POSSIBLE = AntTrails.NOT_POSSIBLE;
    private static final int LIMIT = AntTrails.LIMIT_REACHED;
    private static final int NOT_FOUND = AntTrails.NOT_FOUND;

    public static void main(String[] args) {
        divisions();
        sets();
        mostPlaces();
        nest();
        foodAtFirst();
        mostPaths();
        endsOfPaths();
        severalPaths();
        lengthsOfPaths();
        openAtFirst();
        firstTrails();

        beginsAtTheNest();
        stopsAtTheFood();
        takesOpenPaths();
        goesNowhereTwice();
        isStuck();
        drawsAmongOneToo();
        weights();
        firstNumbers();
        lastNumbers();
        tired();
        tiredBounds();
        doesNotGoWhenTired();
        firstNumberDrawn();
        numbersComeRound();

        antsOfALap();
        trailsAheadOfTheLap();
        vapour();
        laying();
        bestWay();
        equalWays();
        bestWayLaid();
        bestWayClosed();
        trailBounds();
        settingRanges();

        changesAreKept();
        othersAreNotKept();
        oldestIsDropped();
        oldestIsDroppedAgain();
        invalidFirst();
        noSuchNumber();
        lastCall();
        Check.end("TermsTest");
    }

    private static AntTrails oneAnt(AntTrails x) {
        x.set(0, 1);
        return x;
    }

    private static void divisions() {
        Check.says("All divisions are rounded down");
        AntTrails x = oneAnt(Grounds.withPaths(3));
        Check.due("10 * 20 / 3 + 1", x.pathOf(0, 5), 67);
        x.set(4, 1);
        x.set(1, 19);
        x.set(3, 0);
        x.lap(1);
        // 190 / 100 goes off, 100 / 3 is laid
        Check.due("the trail", x.pathOf(0, 3), 10 - 1 + 33);
    }

    private static void sets() {
        Check.says("Sets of places or paths are told as bits: bit k is for number k");
        AntTrails x = Grounds.allPaths(2);
        for (int path = 0; path < 15; path++) {
            x.close(path, true);
        }
        x.lap(1);
        Check.due("best(3) of path 15", x.best(3), 1 << 15);
        x.forget();
        x.close(0, false);
        x.close(15, true);
        x.lap(1);
        Check.due("best(3) of path 0", x.best(3), 1);
        x = Grounds.winding();
        x.lap(1);
        Check.due("best(3) of paths 0, 1 and 2", x.best(3), 7);
    }

    private static void mostPlaces() {
        Check.says("There are at most 10 places, numbered from 0 in the order in which they came");
        AntTrails x = new AntTrails();
        for (int k = 0; k < 10; k++) {
            Check.due("place()", x.place(), k);
            Check.due("count(0)", x.count(0), k + 1);
        }
        Check.due("place() with 10", x.place(), LIMIT);
        Check.due("count(0)", x.count(0), 10);
        Check.due("placeOf(9, 0)", x.placeOf(9, 0), 0);
        Check.due("placeOf(10, 0)", x.placeOf(10, 0), INVALID);
    }

    private static void nest() {
        Check.says("the place 0 is the nest");
        AntTrails x = Grounds.of(3);
        x.path(2, 1, 4);
        Check.due("ant(2)", x.ant(2), 0);
        Check.due("greedy(3)", x.greedy(3), 0);
        Check.due("placeOf(0, 3)", x.placeOf(0, 3), 0);
        Check.due("placeOf(1, 3)", x.placeOf(1, 3), NOT_FOUND);
        x.path(0, 2, 3);
        x.lap(1);
        Check.due("bestAt(0)", x.bestAt(0), 0);
    }

    private static void foodAtFirst() {
        Check.says("the food is at one place (1 at first, if there is such a place)");
        AntTrails x = new AntTrails();
        Check.due("count(10) ahead of places", x.count(10), 1);
        x.place();
        Check.due("count(10) with one place", x.count(10), 1);
        Check.due("food(1) with one place", x.food(1), INVALID);
        x.place();
        Check.due("count(10) with two places", x.count(10), 1);
        Check.due("food(1) with two places", x.food(1), NOT_POSSIBLE);
        x.place();
        x.path(0, 2, 1);
        Check.due("no ant finds it elsewhere", x.ant(0), 1);
        x.path(2, 1, 1);
        Check.due("an ant finds it there", x.ant(0), 0);
    }

    private static void mostPaths() {
        Check.says("There are at most 16 paths, numbered from 0");
        AntTrails x = Grounds.of(2);
        for (int k = 0; k < 16; k++) {
            Check.due("path(0, 1, 5)", x.path(0, 1, 5), k);
            Check.due("count(1)", x.count(1), k + 1);
        }
        Check.due("path(0, 1, 5) with 16", x.path(0, 1, 5), LIMIT);
        Check.due("count(1)", x.count(1), 16);
        Check.due("pathOf(15, 2)", x.pathOf(15, 2), 5);
        Check.due("pathOf(16, 2)", x.pathOf(16, 2), INVALID);
    }

    private static void endsOfPaths() {
        Check.says("each between two places (not both the same)");
        AntTrails x = Grounds.of(10);
        for (int place = 0; place < 10; place++) {
            Check.due("path(" + place + ", " + place + ", 1)", x.path(place, place, 1), INVALID);
        }
        Check.due("path(0, 9, 1)", x.path(0, 9, 1), 0);
        Check.due("path(9, 0, 1)", x.path(9, 0, 1), 1);
        Check.due("pathOf(1, 0)", x.pathOf(1, 0), 9);
        Check.due("pathOf(1, 1)", x.pathOf(1, 1), 0);
    }

    private static void severalPaths() {
        Check.says("several between the same two are allowed");
        AntTrails x = Grounds.allPaths(2);
        Check.due("count(1)", x.count(1), 16);
        Check.due("placeOf(0, 0)", x.placeOf(0, 0), 16);
        Check.due("placeOf(1, 0)", x.placeOf(1, 0), 16);
    }

    private static void lengthsOfPaths() {
        Check.says("with a length (1 to 20)");
        AntTrails x = Grounds.of(2);
        Check.range("path(0, 1, length)", length -> x.path(0, 1, length), 1, 20);
        Check.due("pathOf(0, 2)", x.pathOf(0, 2), 1);
        Check.due("pathOf(1, 2)", x.pathOf(1, 2), 20);
        Check.due("count(1)", x.count(1), 2);
    }

    private static void openAtFirst() {
        Check.says("a path is open (at first) or closed");
        AntTrails x = Grounds.withPaths(5);
        Check.due("pathOf(0, 4)", x.pathOf(0, 4), 0);
        Check.due("count(2)", x.count(2), 1);
        x.close(0, true);
        x.path(0, 1, 5);
        Check.due("pathOf(1, 4)", x.pathOf(1, 4), 0);
        // the number 1 was there, and closed, in a time that was undone
        x.close(1, true);
        x.undo();
        x.undo();
        x.path(0, 1, 5);
        Check.due("pathOf(1, 4) after undo", x.pathOf(1, 4), 0);
    }

    private static void firstTrails() {
        Check.says("The trail of a new path is setting 4");
        AntTrails x = Grounds.withPaths(5);
        Check.due("with the first value", x.pathOf(0, 3), 10);
        x.set(4, 1);
        x.path(0, 1, 5);
        Check.due("with the least", x.pathOf(1, 3), 1);
        x.set(4, 99);
        x.path(0, 1, 5);
        Check.due("with the greatest", x.pathOf(2, 3), 99);
        Check.due("those laid ahead of it stay", x.pathOf(0, 3) + x.pathOf(1, 3), 11);
    }

    // An ant.

    private static void beginsAtTheNest() {
        Check.says("An ant begins at the nest");
        AntTrails x = Grounds.of(2);
        Check.due("ant(1) without paths", x.ant(1), 0);
        Check.due("ant(2) without paths", x.ant(2), 0);
        x.lap(1);
        x.path(0, 1, 5);
        x.lap(1);
        Check.due("ant(1) after ants that went elsewhere", x.ant(1), 5);
    }

    private static void stopsAtTheFood() {
        Check.says("At each place that is not that of the food it looks at the open paths");
        AntTrails x = oneAnt(Grounds.of(3));
        x.path(0, 1, 2);
        x.path(1, 2, 1);
        Check.due("lap(1)", x.lap(1), 1);
        Check.due("ant(2)", x.ant(2), 1);
        Check.due("placeOf(2, 1)", x.placeOf(2, 1), 0);
        Check.due("one draw alone", x.count(11), 16807);
    }

    private static void takesOpenPaths() {
        Check.says("looks at the open paths");
        AntTrails x = Grounds.of(3);
        x.path(0, 1, 2);
        x.path(0, 2, 3);
        x.close(0, true);
        Check.due("ant(2)", x.ant(2), 2);
        x.close(1, true);
        Check.due("ant(2) with none open", x.ant(2), 0);
        x.close(0, false);
        Check.due("ant(2) with the other", x.ant(2), 1);
    }

    private static void goesNowhereTwice() {
        Check.says("to places at which it has not been yet");
        AntTrails x = Grounds.of(3);
        x.path(0, 2, 6);
        x.path(2, 0, 6);
        Check.due("ant(1) does not come back", x.ant(1), 6);
        Check.due("ant(2)", x.ant(2), 2);
        // all places but that of the food, in a circle
        AntTrails y = oneAnt(Grounds.of(10));
        y.path(0, 2, 1);
        for (int place = 2; place < 9; place++) {
            y.path(place, place + 1, 1);
        }
        y.path(9, 0, 1);
        Check.due("ant(1) goes round once", y.ant(1), 8);
        Check.due("ant(0)", y.ant(0), 1);
        y.lap(1);
        for (int place = 2; place < 10; place++) {
            Check.due("placeOf(" + place + ", 1)", y.placeOf(place, 1), 1);
        }
    }

    private static void isStuck() {
        Check.says("If there is none, it is stuck (reason 1)");
        AntTrails x = Grounds.of(2);
        Check.due("ant(0) without paths", x.ant(0), 1);
        x.lap(1);
        Check.due("placeOf(0, 2)", x.placeOf(0, 2), 4);
        Check.due("nothing is drawn", x.count(11), 1);
        x.path(0, 1, 1);
        x.close(0, true);
        Check.due("ant(0) with a closed path", x.ant(0), 1);
        AntTrails y = Grounds.of(3);
        y.path(0, 2, 1);
        Check.due("ant(0) to a dead end", y.ant(0), 1);
    }

    private static void drawsAmongOneToo() {
        Check.says("Otherwise it draws one of these (also if there is one alone)");
        AntTrails x = oneAnt(Grounds.withPaths(20));
        x.lap(1);
        Check.due("count(11)", x.count(11), 16807);
        AntTrails y = oneAnt(Grounds.chain(1, 1, 1));
        y.lap(1);
        Check.due("count(11) of three", y.count(11), 1622650073);
    }

    private static void weights() {
        Check.says("the weight of a path is its trail * 20 / its length, and 1 more");
        AntTrails x = Grounds.withPaths(7, 20, 1);
        Check.due("10 * 20 / 7 + 1", x.pathOf(0, 5), 29);
        Check.due("10 * 20 / 20 + 1", x.pathOf(1, 5), 11);
        Check.due("10 * 20 / 1 + 1", x.pathOf(2, 5), 201);
        x.set(4, 1);
        x.forget();
        Check.due("1 * 20 / 7 + 1", x.pathOf(0, 5), 3);
        Check.due("the least", x.pathOf(1, 5), 2);
        AntTrails y = withGreatestTrail(1);
        Check.due("the greatest", y.pathOf(0, 5), 199981);
        AntTrails z = withGreatestTrail(20);
        Check.due("9999 * 20 / 20 + 1", z.pathOf(0, 5), 10000);
    }

    /** With a path whose trail is 9999. */
    private static AntTrails withGreatestTrail(int length) {
        AntTrails x = Grounds.withPaths(length);
        x.set(0, 5);
        x.set(1, 0);
        x.set(2, 999);
        x.set(3, 9);
        x.set(5, 9999);
        for (int k = 0; k < 4; k++) {
            x.lap(5);
        }
        return x;
    }

    private static void draws(int path, int... lengths) {
        AntTrails x = oneAnt(Grounds.withPaths(lengths));
        x.lap(1);
        for (int k = 0; k < lengths.length; k++) {
            Check.due("pathOf(" + k + ", 6)", x.pathOf(k, 6), k == path ? 1 : 0);
        }
    }

    private static void firstNumbers() {
        Check.says("the first path has as many as its weight tells, from 0 on, and so on");
        // 16807 modulo 26 + 23 is 0
        draws(0, 8, 9);
        draws(0, 9, 8);
        // modulo 67 + 41 it is 67, modulo 67 + 101 + 12 too
        draws(1, 3, 5);
        draws(1, 3, 2, 17);
        // modulo 201 + 14 + 29 it is 215
        draws(2, 1, 15, 7);
    }

    private static void lastNumbers() {
        Check.says("a draw by the sum of the weights is the number of a weight");
        // 16807 modulo 17 + 12 is 16
        draws(0, 12, 17);
        // modulo 101 + 19 + 29 it is 119
        draws(1, 2, 11, 7);
        // modulo 29 + 15 and modulo 11 + 12 + 21 it is 43
        draws(1, 7, 14);
        draws(2, 20, 17, 10);
        Check.says("it draws one of these, in the order of their numbers");
        AntTrails x = oneAnt(Grounds.withPaths(1, 3, 1, 5));
        x.close(0, true);
        x.close(2, true);
        x.lap(1);
        Check.due("a closed path has no number", x.pathOf(3, 6), 1);
    }

    private static void antDue(AntTrails x, int end, int length, int place) {
        Check.due("ant(0)", x.ant(0), end);
        Check.due("ant(1)", x.ant(1), length);
        Check.due("ant(2)", x.ant(2), place);
    }

    private static void tired() {
        Check.says("If its way would be longer than setting 6 by this path, it is tired (reason 2)");
        AntTrails x = Grounds.withPaths(20);
        x.set(6, 19);
        antDue(x, 2, 0, 0);
        x.set(6, 20);
        antDue(x, 0, 20, 1);
        AntTrails y = Grounds.chain(20, 15);
        y.set(6, 34);
        antDue(y, 2, 20, 2);
        y.set(6, 35);
        antDue(y, 0, 35, 1);
        AntTrails z = Grounds.withPaths(3, 5);
        z.set(6, 4);
        Check.due("the other path would do, but is not drawn", z.ant(0), 2);
    }

    private static void tiredBounds() {
        Check.says("6 tiredness (1 to 99; 60)");
        antDue(Grounds.chain(20, 20, 20), 0, 60, 1);
        antDue(Grounds.chain(20, 20, 20, 1), 2, 60, 4);
        AntTrails x = Grounds.withPaths(1);
        x.set(6, 1);
        antDue(x, 0, 1, 1);
        x = Grounds.withPaths(2);
        x.set(6, 1);
        antDue(x, 2, 0, 0);
        x = Grounds.chain(20, 20, 20, 20, 19);
        x.set(6, 99);
        antDue(x, 0, 99, 1);
        x = Grounds.chain(20, 20, 20, 20, 20);
        x.set(6, 99);
        antDue(x, 2, 80, 5);
    }

    private static void doesNotGoWhenTired() {
        Check.says("it is tired (reason 2), and does not go");
        AntTrails x = oneAnt(Grounds.chain(20, 15));
        x.set(6, 34);
        Check.due("lap(1)", x.lap(1), 0);
        Check.due("count(7)", x.count(7), 1);
        Check.due("count(6)", x.count(6), 0);
        Check.due("pathOf(0, 6)", x.pathOf(0, 6), 1);
        Check.due("pathOf(1, 6)", x.pathOf(1, 6), 0);
        Check.due("placeOf(1, 1)", x.placeOf(1, 1), 0);
        Check.due("placeOf(2, 2)", x.placeOf(2, 2), 0);
        Check.due("it drew twice", x.count(11), 282475249);
    }

    private static void firstNumberDrawn() {
        Check.says("There is a number x (1 at first)");
        Check.due("count(11)", new AntTrails().count(11), 1);
        Check.says("to draw by n is to make x (x * 16807) modulo 2147483647");
        AntTrails x = oneAnt(Grounds.withPaths(1));
        int[] due = {16807, 282475249, 1622650073, 984943658, 1144108930};
        for (int number : due) {
            x.lap(1);
            Check.due("count(11)", x.count(11), number);
        }
    }

    private static void numbersComeRound() {
        Check.says("to draw by n is to make x (x * 16807) modulo 2147483647");
        AntTrails x = Grounds.chain(1, 1, 1, 1, 1, 1, 1, 1);
        x.set(0, 5);
        for (int k = 0; k < 50; k++) {
            x.lap(5);
        }
        // 5 * 5 ants with 8 draws each, 50 times
        Check.due("count(11) after 10000 draws", x.count(11), 1043618065);
    }

    // A lap.

    private static void antsOfALap() {
        Check.says("In a lap as many ants as setting 0 tells look for the food");
        AntTrails x = Grounds.withPaths(1);
        Check.due("at first", x.lap(1), 4);
        x.set(0, 1);
        Check.due("the least", x.lap(1), 1);
        x.set(0, 5);
        Check.due("the greatest", x.lap(1), 5);
        Check.due("count(4)", x.count(4), 10);
        Check.due("lap(5)", x.lap(5), 25);
    }

    private static void trailsAheadOfTheLap() {
        Check.says("one after the other, with the trails as they are ahead of the lap");
        AntTrails x = Grounds.withPaths(2, 4);
        x.set(0, 2);
        // by 101 + 51 it is 87 and 121; with what the first one lays it were 161 of 601 + 51
        x.lap(1);
        Check.due("pathOf(0, 6)", x.pathOf(0, 6), 1);
        Check.due("pathOf(1, 6)", x.pathOf(1, 6), 1);
        AntTrails y = Grounds.withPaths(5, 5);
        y.set(0, 2);
        // by 41 + 41 it is 79 and 9; with what the first one lays it were 61 of 41 + 121
        y.lap(1);
        Check.due("pathOf(0, 6)", y.pathOf(0, 6), 1);
        Check.due("pathOf(1, 6)", y.pathOf(1, 6), 1);
    }

    /** The trail that is left of one by so much vapour, where no ant goes. */
    private static int leftOf(int trail, int much) {
        AntTrails x = Grounds.of(2);
        x.set(4, trail);
        x.path(0, 1, 1);
        x.close(0, true);
        x.set(4, 1);
        x.set(1, much);
        x.lap(1);
        return x.pathOf(0, 3);
    }

    private static void vapour() {
        Check.says("Each trail, of closed paths too, goes off: it becomes less by (it * setting 1) / 100");
        Check.due("10 by 20", leftOf(10, 20), 8);
        Check.due("10 by 0", leftOf(10, 0), 10);
        Check.due("10 by 90", leftOf(10, 90), 1);
        Check.due("99 by 90", leftOf(99, 90), 10);
        Check.due("99 by 1", leftOf(99, 1), 99);
        Check.due("4 by 25", leftOf(4, 25), 3);
        Check.due("4 by 24", leftOf(4, 24), 4);
        Check.due("1 by 90", leftOf(1, 90), 1);
        AntTrails x = withGreatestTrail(1);
        x.set(1, 90);
        x.close(0, true);
        x.forget();
        Check.due("the trail", x.pathOf(0, 3), 10);
        x.undo();
        x.set(3, 0);
        x.lap(1);
        Check.due("9999 by 90", x.pathOf(0, 3), 1000);
    }

    /** The trail of a path after one ant has gone over it, the best way being laid so many times. */
    private static int laidOn(int length, int much, int times) {
        AntTrails x = oneAnt(Grounds.withPaths(length));
        x.set(1, 0);
        x.set(2, much);
        x.set(3, times);
        x.set(5, 9999);
        x.lap(1);
        return x.pathOf(0, 3);
    }

    private static void laying() {
        Check.says("For each ant that found the food, in their order, the trails of its paths become more by"
            + " setting 2 / the length of its way each");
        Check.due("100 / 3", laidOn(3, 100, 0), 10 + 33);
        Check.due("1 / 1", laidOn(1, 1, 0), 11);
        Check.due("1 / 2", laidOn(2, 1, 0), 10);
        Check.due("999 / 1", laidOn(1, 999, 0), 10 + 999);
        Check.due("19 / 20", laidOn(20, 19, 0), 10);
        Check.due("20 / 20", laidOn(20, 20, 0), 11);
        AntTrails x = Grounds.winding();
        x.set(0, 5);
        x.set(1, 0);
        x.set(3, 0);
        x.lap(1);
        for (int path = 0; path < 3; path++) {
            Check.due("five ants, 100 / 16", x.pathOf(path, 3), 10 + 5 * 6);
        }
        AntTrails y = Grounds.of(3);
        y.path(0, 2, 1);
        y.set(1, 0);
        y.lap(1);
        Check.due("stuck ones lay nothing", y.pathOf(0, 3), 10);
        y.path(2, 1, 20);
        y.set(6, 20);
        y.lap(1);
        Check.due("tired ones neither", y.pathOf(0, 3), 10);
    }

    private static void bestWay() {
        Check.says("If one of them has a shorter way than the best one so far (or there was none), that is the"
            + " best one from now on");
        AntTrails x = Grounds.withPaths(5);
        Check.due("there was none", x.best(0), NOT_FOUND);
        x.lap(1);
        Check.due("best(0)", x.best(0), 5);
        x.close(0, true);
        x.path(0, 1, 5);
        x.lap(1);
        Check.due("one as long is none", x.best(3), 1);
        x.close(1, true);
        x.path(0, 1, 6);
        x.lap(1);
        Check.due("a longer one is none", x.best(3), 1);
        x.close(2, true);
        x.path(0, 1, 4);
        x.lap(1);
        Check.due("one that is shorter by 1", x.best(3), 8);
        Check.due("best(0)", x.best(0), 4);
        // by 34 + 41 it is 7, 49 and 23: the longer one, the shorter one, the longer one
        AntTrails y = Grounds.withPaths(6, 5);
        y.set(0, 3);
        y.lap(1);
        Check.due("pathOf(0, 6)", y.pathOf(0, 6), 2);
        Check.due("pathOf(1, 6)", y.pathOf(1, 6), 1);
        Check.due("the shortest of a lap", y.best(0), 5);
    }

    private static void equalWays() {
        Check.says("of several such the first one of the shortest");
        // by 82 it is 79 and 9: the second path, then the first
        AntTrails x = Grounds.withPaths(5, 5);
        x.set(0, 2);
        x.lap(1);
        Check.due("both were taken", x.pathOf(0, 6) * 10 + x.pathOf(1, 6), 11);
        Check.due("best(3)", x.best(3), 2);
        // by 42 it is 7, 7 and 23: the first path twice, then the second
        AntTrails y = Grounds.withPaths(10, 10);
        y.set(0, 3);
        y.lap(1);
        Check.due("both were taken", y.pathOf(0, 6) * 10 + y.pathOf(1, 6), 21);
        Check.due("best(3)", y.best(3), 1);
    }

    private static void bestWayLaid() {
        Check.says("Then, if there is a best one, the trails of its paths become more by setting 3 * (setting 2 /"
            + " its length)");
        Check.due("0 times", laidOn(3, 100, 0), 10 + 33);
        Check.due("once", laidOn(3, 100, 1), 10 + 66);
        Check.due("9 times", laidOn(3, 100, 9), 10 + 330);
        Check.due("9 times nothing", laidOn(3, 2, 9), 10);
        AntTrails x = Grounds.winding();
        x.set(1, 0);
        x.lap(1);
        for (int path = 0; path < 3; path++) {
            Check.due("each of its paths", x.pathOf(path, 3), 10 + 5 * 6);
        }
        AntTrails y = Grounds.of(2);
        y.path(0, 1, 5);
        y.close(0, true);
        y.set(1, 0);
        y.lap(1);
        Check.due("there is none", y.pathOf(0, 3), 10);
    }

    private static void bestWayClosed() {
        Check.says("those of closed paths too");
        AntTrails x = oneAnt(Grounds.withPaths(5));
        x.set(1, 0);
        x.lap(1);
        Check.due("ahead of it", x.pathOf(0, 3), 50);
        x.close(0, true);
        Check.due("lap(1)", x.lap(1), 0);
        Check.due("pathOf(0, 3)", x.pathOf(0, 3), 70);
    }

    private static void trailBounds() {
        Check.says("Each trail below setting 4 becomes setting 4, each one above setting 5 becomes setting 5");
        AntTrails x = Grounds.withPaths(1, 20);
        x.close(1, true);
        x.lap(1);
        Check.due("8 becomes 10", x.pathOf(1, 3), 10);
        x.set(1, 0);
        x.set(4, 11);
        x.lap(1);
        Check.due("10 becomes 11", x.pathOf(1, 3), 11);
        x.lap(1);
        Check.due("11 stays", x.pathOf(1, 3), 11);
        x.set(4, 99);
        x.lap(1);
        Check.due("99 is the greatest lower bound", x.pathOf(1, 3), 99);
        Check.due("1000 is the upper bound at first", x.pathOf(0, 3), 1000);
        x.set(5, 100);
        x.lap(1);
        Check.due("100 is the least upper bound", x.pathOf(0, 3), 100);
        Check.due("within the bounds nothing changes", x.pathOf(1, 3), 99);
        Check.due("9999 is the greatest", withGreatestTrail(1).pathOf(0, 3), 9999);
        // what one ant lays comes to 109 just, 110 and 111
        int[] laid = {99, 100, 101};
        int[] due = {109, 110, 110};
        for (int k = 0; k < laid.length; k++) {
            AntTrails y = oneAnt(Grounds.withPaths(1));
            y.set(1, 0);
            y.set(2, laid[k]);
            y.set(3, 0);
            y.set(5, 110);
            y.lap(1);
            Check.due("with " + laid[k] + " laid", y.pathOf(0, 3), due[k]);
        }
    }

    private static void settingRanges() {
        Check.says("The settings are (in parentheses: range; first value)");
        int[][] settings = {{1, 5, 4}, {0, 90, 20}, {1, 999, 100}, {0, 9, 1}, {1, 99, 10}, {100, 9999, 1000},
            {1, 99, 60}};
        for (int k = 0; k < settings.length; k++) {
            int what = k;
            AntTrails x = new AntTrails();
            Check.due("count(" + (20 + what) + ")", x.count(20 + what), settings[what][2]);
            Check.range("set(" + what + ", value)", value -> x.set(what, value), settings[what][0],
                settings[what][1]);
            Check.due("count(" + (20 + what) + ")", x.count(20 + what), settings[what][1]);
            x.undo();
            Check.due("count(" + (20 + what) + ")", x.count(20 + what), settings[what][0]);
        }
    }

    // Changes and errors.

    private static void changesAreKept() {
        Check.says("The changes are the calls of place, path, close, food, lap, forget, set and play that return"
            + " no error");
        AntTrails x = new AntTrails();
        x.place();
        Check.due("place()", x.count(12), 1);
        x.place();
        x.place();
        x.path(0, 1, 1);
        Check.due("path()", x.count(12), 4);
        x.undo();
        x.undo();
        x.undo();
        Check.due("three less", x.count(12), 1);
        x.place();
        x.path(0, 1, 1);
        x.undo();
        x.undo();
        x.set(0, 4);
        Check.due("set() to what it is already", x.count(12), 2);
        x.forget();
        Check.due("forget() of nothing", x.count(12), 3);
        x.play();
        Check.due("play() of nothing", x.count(12), 4);

        AntTrails y = Grounds.withPaths(1);
        y.undo();
        y.close(0, true);
        Check.due("close() of a path that is gone", y.count(12), 2);
        y.path(0, 1, 1);
        y.close(0, true);
        Check.due("close()", y.count(12), 4);
        y.undo();
        y.undo();
        y.lap(1);
        Check.due("lap() without a path", y.count(12), 3);
        y.undo();
        y.place();
        y.food(2);
        Check.due("food()", y.count(12), 4);
    }

    private static void othersAreNotKept() {
        Check.says("The changes are the calls of place, path, close, food, lap, forget, set and play");
        AntTrails x = Grounds.winding();
        x.lap(1);
        x.undo();
        x.undo();
        int states = x.count(12);
        x.type('l');
        x.type('1');
        x.type(';');
        x.fault(0);
        x.clearText();
        x.ant(0);
        x.would(5, 3);
        x.greedy(0);
        x.over();
        x.best(0);
        x.bestAt(0);
        x.chance(0, 0);
        x.pathOf(0, 0);
        x.placeOf(0, 3);
        Check.due("count(12)", x.count(12), states);
        Check.due("undo() takes one away", x.undo(), states - 1);
        Check.due("count(12)", x.count(12), states - 1);
    }

    private static void oldestIsDropped() {
        Check.says("A history of at most 4 states is kept: if there are 5 states then, the oldest one is dropped");
        AntTrails x = new AntTrails();
        int[] states = {1, 2, 3, 4, 4, 4, 4};
        for (int k = 0; k < states.length; k++) {
            x.set(2, 201 + k);
            Check.due("count(12)", x.count(12), states[k]);
        }
        for (int left = 3; left >= 0; left--) {
            Check.due("undo()", x.undo(), left);
            Check.due("count(22)", x.count(22), 203 + left);
        }
        Check.due("undo() of the one that was dropped", x.undo(), NOT_POSSIBLE);
        Check.due("count(22)", x.count(22), 203);
        AntTrails y = new AntTrails();
        for (int k = 0; k < 4; k++) {
            y.set(2, 201 + k);
        }
        for (int left = 3; left >= 0; left--) {
            Check.due("undo()", y.undo(), left);
        }
        Check.due("4 states reach back to the beginning", y.count(22), 100);
    }

    private static void oldestIsDroppedAgain() {
        Check.says("if there are 5 states then, the oldest one is dropped");
        AntTrails x = new AntTrails();
        for (int k = 1; k <= 6; k++) {
            x.set(2, k);
        }
        x.undo();
        x.undo();
        for (int k = 11; k <= 14; k++) {
            x.set(2, k);
        }
        int[] due = {13, 12, 11, 4};
        for (int value : due) {
            x.undo();
            Check.due("count(22)", x.count(22), value);
        }
        Check.due("undo()", x.undo(), NOT_POSSIBLE);
        x.set(2, 99);
        Check.due("count(12)", x.count(12), 1);
        x.undo();
        Check.due("count(22)", x.count(22), 4);
    }

    private static void invalidFirst() {
        Check.says("If several errors apply to a call, INVALID_ARGUMENT is returned rather than NOT_POSSIBLE");
        AntTrails empty = new AntTrails();
        Check.due("lap(0)", empty.lap(0), INVALID);
        Check.due("greedy(4)", empty.greedy(4), INVALID);
        Check.due("ant(3)", empty.ant(3), INVALID);
        Check.due("would(0, 0)", empty.would(0, 0), INVALID);
        Check.due("would(1, 4)", empty.would(1, 4), INVALID);
        Check.due("close(0, false)", empty.close(0, false), INVALID);
        Check.due("food(1)", empty.food(1), INVALID);
        Check.says("INVALID_ARGUMENT is returned rather than LIMIT_REACHED");
        AntTrails full = Grounds.allPaths(2);
        Check.due("path(0, 2, 1)", full.path(0, 2, 1), INVALID);
        Check.due("path(0, 1, 21)", full.path(0, 1, 21), INVALID);
        Check.due("path(1, 1, 1)", full.path(1, 1, 1), INVALID);
        Check.says("INVALID_ARGUMENT is returned rather than NOT_FOUND");
        Check.due("best(4)", full.best(4), INVALID);
        Check.due("bestAt(-1)", full.bestAt(-1), INVALID);
        Check.due("fault(3)", full.fault(3), INVALID);
        Check.due("would(6, 2)", full.would(6, 2), INVALID);
        Check.due("placeOf(2, 3)", full.placeOf(2, 3), INVALID);
        full.close(0, true);
        Check.due("chance(2, 0)", full.chance(2, 0), INVALID);
        Check.says("NOT_POSSIBLE rather than LIMIT_REACHED, and LIMIT_REACHED rather than NOT_FOUND");
        Check.due("would(1, 2)", empty.would(1, 2), NOT_POSSIBLE);
    }

    private static void noSuchNumber() {
        Check.says("If there is no place or path with a certain number, this is INVALID_ARGUMENT");
        AntTrails x = Grounds.of(3);
        x.path(0, 1, 1);
        x.path(0, 2, 1);
        int[] noPlace = {Integer.MIN_VALUE, -1, 3, 4, 10, 32, 64, Integer.MAX_VALUE};
        Check.refuses("path(place, 0, 1)", place -> x.path(place, 0, 1), noPlace);
        Check.refuses("path(0, place, 1)", place -> x.path(0, place, 1), noPlace);
        Check.refuses("path(place, place, 1)", place -> x.path(place, place, 1), noPlace);
        Check.refuses("food(place)", place -> x.food(place), noPlace);
        Check.refuses("placeOf(place, 0)", place -> x.placeOf(place, 0), noPlace);
        Check.refuses("chance(place, 0)", place -> x.chance(place, 0), noPlace);
        int[] noPath = {Integer.MIN_VALUE, -1, 2, 3, 16, 32, 64, Integer.MAX_VALUE};
        Check.refuses("close(path, true)", path -> x.close(path, true), noPath);
        Check.refuses("close(path, false)", path -> x.close(path, false), noPath);
        Check.refuses("pathOf(path, 0)", path -> x.pathOf(path, 0), noPath);
        Check.refuses("chance(0, path)", path -> x.chance(0, path), noPath);
        x.undo();
        Check.due("a path that was undone", x.pathOf(1, 0), INVALID);
        x.undo();
        x.undo();
        Check.due("a place that was undone", x.placeOf(2, 0), INVALID);
    }

    private static void lastCall() {
        Check.says("An object is used for at most 512 calls after it has been made");
        AntTrails x = Grounds.withPaths(1);
        x.set(0, 5);
        for (int k = 4; k < 508; k++) {
            x.lap(5);
        }
        Check.due("count(3)", x.count(3), 2520);
        Check.due("count(4)", x.count(4), 12600);
        Check.due("pathOf(0, 6)", x.pathOf(0, 6), 12600);
        Check.due("the last undo()", x.undo(), 3);
    }
}
