/**
 * The edges in what the document says of texts: in its section 'Texts' and in its sections 'Promise 20' to
 * 'Promise 23', a test for each sentence that names one.
 */
public final class TextsTest {
    private static final int INVALID = AntTrails.INVALID_ARGUMENT;
    private static final int NOT_POSSIBLE = AntTrails.NOT_POSSIBLE;
    private static final int LIMIT = AntTrails.LIMIT_REACHED;
    private static final int NOT_FOUND = AntTrails.NOT_FOUND;
    private static final String[] ORDERS = {"p0,1,5;", "p000,0001,20;", "c0;", "c0000;", "o1;", "o0001;", "f2;",
        "f0002;", "s0,5;", "s0006,0099;", "l5;", "l0001;"};
    private static final String KINDS = "pcofsl";

    public static void main(String[] args) {
        characters();
        mostCharacters();
        clearText();
        textIsEmptyAtFirst();
        textStays();

        ordersOfTheirForm();
        kinds();
        endsTooEarly();
        breaksOff();
        digits();
        signsBesideDigits();
        signsBetween();
        moreThanAnOrder();

        numbersOfPaths();
        numbersOfSettings();
        numbersOfOthers();
        causes();
        thoseAheadAreDone();
        positions();
        firstOrder();
        noFault();
        whatOfFault();
        faultChangesNothing();

        playNumbers();
        playIsOneChange();
        playDropsTheOldest();
        playStays();
        playRefused();
        playDoesAll();
        Check.end("TextsTest");
    }

    /** Three places, the paths 0 (open) and 1 (closed) between the nest and the food. */
    private static AntTrails ground() {
        AntTrails x = Grounds.withPaths(5, 6);
        x.place();
        x.close(1, true);
        return x;
    }

    private static void faultDue(AntTrails x, String text, int position, int reason, int cause) {
        Grounds.text(x, text);
        Check.due("fault(0) of " + text, x.fault(0), position);
        Check.due("fault(1) of " + text, x.fault(1), reason);
        Check.due("fault(2) of " + text, x.fault(2), cause);
        if (reason != NOT_FOUND) {
            Check.due("play() of " + text, x.play(), NOT_POSSIBLE);
        }
    }

    private static void breaksOffAt(String text, int position, int cause) {
        faultDue(ground(), text, position, 1, cause);
    }

    private static void isPossible(AntTrails x, String text, int orders) {
        faultDue(x, text, NOT_FOUND, NOT_FOUND, NOT_FOUND);
        Check.due("play() of " + text, x.play(), orders);
    }

    // The text.

    private static void characters() {
        Check.says("Promise 20: INVALID_ARGUMENT if character is out of range (32 to 126)");
        AntTrails x = new AntTrails();
        Check.range("type(character)", character -> x.type(character), 32, 126);
        Check.due("count(13)", x.count(13), 2);
        Check.refuses("type(character)", character -> x.type(character), 0, 9, 10, 13, 128, 255, 256 + ';', -';');
        for (int character = 32; character <= 80; character++) {
            Check.due("type(" + character + ")", x.type(character), character - 29);
        }
        AntTrails y = new AntTrails();
        for (int character = 81; character <= 126; character++) {
            Check.due("type(" + character + ")", y.type(character), character - 80);
        }
    }

    private static void mostCharacters() {
        Check.says("Promise 20: Returns the length of the text; LIMIT_REACHED if it has 60 characters");
        AntTrails x = new AntTrails();
        for (int length = 1; length <= 60; length++) {
            Check.due("type(';')", x.type(';'), length);
            Check.due("count(13)", x.count(13), length);
        }
        Check.due("type(';') with 60", x.type(';'), LIMIT);
        Check.due("type(126) with 60", x.type(126), LIMIT);
        Check.due("type(31) with 60", x.type(31), INVALID);
        Check.due("type(127) with 60", x.type(127), INVALID);
        Check.due("count(13)", x.count(13), 60);
        x.clearText();
        for (int length = 1; length <= 60; length++) {
            Check.due("type(';') again", x.type(';'), length);
        }
        Check.due("type(';') with 60 again", x.type(';'), LIMIT);
    }

    private static void clearText() {
        Check.says("Promise 21: Empties the text. Returns the length it had");
        AntTrails x = new AntTrails();
        Check.due("clearText() at first", x.clearText(), 0);
        x.type('x');
        Check.due("clearText() of one", x.clearText(), 1);
        Check.due("clearText() of none", x.clearText(), 0);
        for (int k = 0; k < 60; k++) {
            x.type('x');
        }
        Check.due("clearText() of 60", x.clearText(), 60);
        Check.due("count(13)", x.count(13), 0);
        Check.due("fault(0)", x.fault(0), NOT_FOUND);
        Check.due("play()", x.play(), 0);
        x.type('l');
        Check.due("what was there is gone", x.fault(2), 1);
    }

    private static void textIsEmptyAtFirst() {
        Check.says("There is a text of at most 60 characters, initially empty");
        AntTrails x = new AntTrails();
        Check.due("count(13)", x.count(13), 0);
        Check.due("fault(1)", x.fault(1), NOT_FOUND);
        Check.due("play()", x.play(), 0);
    }

    private static void textStays() {
        Check.says("each change records everything before it but the text");
        AntTrails x = new AntTrails();
        x.type('l');
        x.place();
        x.type('0');
        Check.due("undo()", x.undo(), 0);
        Check.due("count(13)", x.count(13), 2);
        Check.due("its fault", x.fault(2), 2);
        x.place();
        x.clearText();
        x.undo();
        Check.due("an empty one stays empty", x.count(13), 0);
    }

    // The form of orders.

    private static void ordersOfTheirForm() {
        Check.says("orders, each followed by \";\"; numbers of 1 to 4 digits, 0 ahead allowed");
        for (String order : ORDERS) {
            isPossible(ground(), order, 1);
            isPossible(ground(), "l1;" + order, 2);
        }
    }

    private static void kinds() {
        Check.says("\"p\", \"c\", \"o\", \"f\", \"s\" or \"l\"");
        for (char kind = 32; kind <= 126; kind++) {
            if (KINDS.indexOf(kind) < 0) {
                breaksOffAt(kind + "0;", 0, 0);
            }
        }
    }

    private static void endsTooEarly() {
        Check.says("of one that the text ends too early it is its length");
        for (String order : ORDERS) {
            for (int length = 1; length < order.length(); length++) {
                breaksOffAt(order.substring(0, length), 0, length);
                breaksOffAt("l1;s3,9;" + order.substring(0, length), 8, length);
            }
        }
    }

    private static void breaksOff() {
        Check.says("its cause is with the reason 1 at which character of the order, from 0, it breaks off");
        for (String order : ORDERS) {
            for (int at = 0; at < order.length(); at++) {
                String rest = order.substring(at + 1);
                breaksOffAt(order.substring(0, at) + "!" + rest, 0, at);
                breaksOffAt("o1;" + order.substring(0, at) + " " + rest, 3, at);
                if (at > 0) {
                    breaksOffAt("o1;" + order.substring(0, at) + order, 3, at);
                }
            }
        }
    }

    private static void digits() {
        Check.says("numbers of 1 to 4 digits");
        String[] heads = {"p", "p0,", "p0,1,", "c", "o", "f", "s", "s0,", "l"};
        String[] tails = {",1,5;", ",5;", ";", ";", ";", ";", ",5;", ";", ";"};
        for (int k = 0; k < heads.length; k++) {
            int at = heads[k].length();
            breaksOffAt(heads[k] + tails[k], 0, at);
            breaksOffAt(heads[k] + "00000" + tails[k], 0, at + 4);
            breaksOffAt(heads[k] + "000001" + tails[k], 0, at + 4);
            breaksOffAt(heads[k] + "-1" + tails[k], 0, at);
            breaksOffAt(heads[k] + "+1" + tails[k], 0, at);
        }
        isPossible(ground(), "p0000,0002,0020;c0002;o0002;f0002;s0006,0009;l0005;", 6);
    }

    private static void signsBesideDigits() {
        Check.says("numbers of 1 to 4 digits");
        for (char sign = 32; sign <= 126; sign++) {
            boolean isDigit = "0123456789".indexOf(sign) >= 0;
            if (!isDigit) {
                breaksOffAt("l" + sign, 0, 1);
            }
            if (!isDigit && sign != ';') {
                breaksOffAt("l1" + sign, 0, 2);
            }
        }
        AntTrails x = new AntTrails();
        isPossible(x, "s2,123;s5,4567;s2,890;", 3);
        Check.due("count(22)", x.count(22), 890);
        Check.due("count(25)", x.count(25), 4567);
    }

    private static void signsBetween() {
        Check.says("\"p\" a place, \",\", a place, \",\", a length");
        breaksOffAt("p0;1,5;", 0, 2);
        breaksOffAt("p0,1;5;", 0, 4);
        breaksOffAt("p0,1,5,", 0, 6);
        breaksOffAt("p,0,1,5;", 0, 1);
        breaksOffAt("p0,,1,5;", 0, 3);
        breaksOffAt("p0,1,,5;", 0, 5);
        breaksOffAt("p0.1,5;", 0, 2);
        Check.says("\"s\" a setting, \",\", a value");
        breaksOffAt("s0;5;", 0, 2);
        breaksOffAt("s0,5,", 0, 4);
        breaksOffAt("s,0,5;", 0, 1);
        breaksOffAt("s0,,5;", 0, 3);
        Check.says("\"c\" a path, \"o\" a path, \"f\" a place, \"l\" laps");
        for (String kind : new String[] {"c", "o", "f", "l"}) {
            breaksOffAt(kind + "1,", 0, 2);
            breaksOffAt(kind + "1,2;", 0, 2);
            breaksOffAt(kind + ",", 0, 1);
            breaksOffAt(kind + ";", 0, 1);
            breaksOffAt(kind + kind, 0, 1);
        }
    }

    private static void moreThanAnOrder() {
        Check.says("orders, each followed by \";\"");
        breaksOffAt(";", 0, 0);
        breaksOffAt("l1;;", 3, 0);
        breaksOffAt("l1;,l1;", 3, 0);
        breaksOffAt("l1; l1;", 3, 0);
        breaksOffAt("l1l1;", 0, 2);
        breaksOffAt("l1;l1", 3, 2);
    }

    // Whether orders are possible.

    private static void refusedFor(AntTrails x, String text, int cause) {
        faultDue(x, text, 0, 2, cause);
    }

    private static void numbersOfPaths() {
        Check.says("with the reason 2 the error code that the call returns for it: path");
        String[] wrong = {"p3,1,5;", "p0,3,5;", "p0,0,5;", "p2,2,5;", "p0,1,0;", "p0,1,21;", "p0,1,9999;",
            "p9999,0,1;", "p0,9999,1;", "p10,0,1;", "p0,0010,1;"};
        for (String order : wrong) {
            refusedFor(ground(), order, INVALID);
        }
        isPossible(ground(), "p0,2,1;p2,0,20;p1,2,0001;", 3);
        AntTrails x = Grounds.allPaths(2);
        refusedFor(x, "p0,1,1;", LIMIT);
        refusedFor(x, "p0,1,21;", INVALID);
    }

    private static void numbersOfSettings() {
        Check.says("with the reason 2 the error code that the call returns for it: set");
        String[] wrong = {"s7,5;", "s9999,5;", "s0020,5;", "s0,0;", "s0,6;", "s1,91;", "s2,0;", "s2,1000;", "s3,10;",
            "s4,0;", "s4,100;", "s5,99;", "s5,0;", "s6,0;", "s6,100;", "s6,9999;"};
        for (String order : wrong) {
            refusedFor(ground(), order, INVALID);
        }
        isPossible(ground(), "s0,1;s0,5;s1,0;s1,90;s2,1;s2,999;s3,0;s3,9;", 8);
        isPossible(ground(), "s4,1;s4,99;s5,100;s5,9999;s6,1;s6,99;", 6);
    }

    private static void numbersOfOthers() {
        Check.says("with the reason 2 the error code that the call returns for it: close, food, lap");
        refusedFor(ground(), "c2;", INVALID);
        refusedFor(ground(), "c16;", INVALID);
        refusedFor(ground(), "c9999;", INVALID);
        refusedFor(ground(), "c1;", NOT_POSSIBLE);
        refusedFor(ground(), "o2;", INVALID);
        refusedFor(ground(), "o9999;", INVALID);
        refusedFor(ground(), "o0;", NOT_POSSIBLE);
        refusedFor(ground(), "f0;", INVALID);
        refusedFor(ground(), "f3;", INVALID);
        refusedFor(ground(), "f9999;", INVALID);
        refusedFor(ground(), "f1;", NOT_POSSIBLE);
        refusedFor(ground(), "l0;", INVALID);
        refusedFor(ground(), "l6;", INVALID);
        refusedFor(ground(), "l9999;", INVALID);
        refusedFor(new AntTrails(), "l6;", INVALID);
        refusedFor(new AntTrails(), "l1;", NOT_POSSIBLE);
        refusedFor(Grounds.of(1), "l5;", NOT_POSSIBLE);
        refusedFor(Grounds.of(1), "f1;", INVALID);
        refusedFor(new AntTrails(), "c0;", INVALID);
        refusedFor(new AntTrails(), "p0,1,1;", INVALID);
        isPossible(Grounds.of(2), "l1;l5;", 2);
        AntTrails full = Grounds.allPaths(10);
        isPossible(full, "c15;o15;f9;c15;", 4);
    }

    private static void causes() {
        Check.says("its reason is 1 if it is not of this form, its \";\" included, and otherwise 2");
        faultDue(ground(), "l6", 0, 1, 2);
        faultDue(ground(), "l6;", 0, 2, INVALID);
        faultDue(ground(), "l66666;", 0, 1, 5);
        faultDue(ground(), "l6666;", 0, 2, INVALID);
        faultDue(ground(), "c1", 0, 1, 2);
        faultDue(ground(), "c1;", 0, 2, NOT_POSSIBLE);
        faultDue(ground(), "p9,9,99", 0, 1, 7);
        faultDue(ground(), "p9,9,99;", 0, 2, INVALID);
    }

    private static void thoseAheadAreDone() {
        Check.says("and otherwise 2, when those ahead of it are done");
        isPossible(ground(), "p0,2,5;c2;o2;f2;f1;c0;o0;o1;c1;", 9);
        faultDue(ground(), "p0,2,5;c2;c2;", 10, 2, NOT_POSSIBLE);
        faultDue(ground(), "c0;o0;o0;", 6, 2, NOT_POSSIBLE);
        faultDue(ground(), "f2;f1;f1;", 6, 2, NOT_POSSIBLE);
        faultDue(ground(), "p0,2,5;c3;", 7, 2, INVALID);
        AntTrails x = Grounds.of(2);
        for (int k = 0; k < 15; k++) {
            x.path(0, 1, 1);
        }
        faultDue(x, "p0,1,1;p0,1,1;", 7, 2, LIMIT);
        isPossible(x, "p0,1,1;", 1);
    }

    private static String laps(int orders) {
        return "l1;".repeat(orders);
    }

    private static void positions() {
        Check.says("The fault of the text is the position, from 0, of the first character of the first order that is"
            + " not possible");
        breaksOffAt("!", 0, 0);
        breaksOffAt(laps(19) + "!", 57, 0);
        breaksOffAt(laps(19) + "l1!", 57, 2);
        breaksOffAt(laps(19) + "l11", 57, 3);
        breaksOffAt("s0,5;" + laps(18) + "l", 59, 1);
        breaksOffAt("s0,5;" + laps(18) + "!", 59, 0);
        faultDue(ground(), laps(19) + "l6;", 57, 2, INVALID);
        faultDue(ground(), laps(1) + "l6;", 3, 2, INVALID);
        breaksOffAt("!".repeat(60), 0, 0);
    }

    private static void firstOrder() {
        Check.says("of the first order that is not possible");
        faultDue(ground(), "l6;!", 0, 2, INVALID);
        faultDue(ground(), "!;l6;", 0, 1, 0);
        faultDue(ground(), "l1;f0;c1;", 3, 2, INVALID);
        faultDue(ground(), "l1;c1;f0;", 3, 2, NOT_POSSIBLE);
        faultDue(ground(), "l1;l;f0;", 3, 1, 1);
        faultDue(ground(), "l1;f0;l;", 3, 2, INVALID);
    }

    private static void noFault() {
        Check.says("Promise 22: NOT_FOUND if the text has no fault (also if it is empty)");
        faultDue(new AntTrails(), "", NOT_FOUND, NOT_FOUND, NOT_FOUND);
        faultDue(ground(), "", NOT_FOUND, NOT_FOUND, NOT_FOUND);
        faultDue(ground(), "l1;", NOT_FOUND, NOT_FOUND, NOT_FOUND);
        faultDue(ground(), laps(20), NOT_FOUND, NOT_FOUND, NOT_FOUND);
        faultDue(new AntTrails(), "s0,1;", NOT_FOUND, NOT_FOUND, NOT_FOUND);
        AntTrails x = ground();
        faultDue(x, "c1;", 0, 2, NOT_POSSIBLE);
        x.close(1, false);
        Check.due("fault(0) in another state", x.fault(0), NOT_FOUND);
        x.undo();
        Check.due("fault(0) in the old one", x.fault(0), 0);
    }

    private static void whatOfFault() {
        Check.says("Promise 22: Returns that; INVALID_ARGUMENT if what is out of range");
        AntTrails x = ground();
        Check.range("fault(what) of an empty text", what -> x.fault(what), 0, 2);
        Grounds.text(x, "l1;");
        Check.refuses("fault(what) without one", what -> x.fault(what), -1, 3, 4);
        Grounds.text(x, "l1;x");
        Check.range("fault(what)", what -> x.fault(what), 0, 2);
    }

    private static void faultChangesNothing() {
        Check.says("Promise 22: Tells about the fault of the text");
        AntTrails x = Grounds.text(ground(), "l5;c0;s0,1;p0,2,3;f2;l5;l6;");
        AntTrails same = Grounds.text(ground(), "l5;c0;s0,1;p0,2,3;f2;l5;l6;");
        for (int k = 0; k < 12; k++) {
            x.fault(k % 3);
        }
        Check.due("count(12)", x.count(12), same.count(12));
        Check.same("the state", Grounds.all(x), Grounds.all(same));
    }

    // play.

    private static void playNumbers() {
        Check.says("Promise 23: Returns how many there are in it");
        for (int orders = 0; orders <= 20; orders++) {
            AntTrails x = Grounds.text(ground(), laps(orders));
            Check.due("play() of " + orders, x.play(), orders);
            Check.due("count(3)", x.count(3), orders);
        }
        AntTrails most = Grounds.text(ground(), "l5;".repeat(20));
        Check.due("play() of 20", most.play(), 20);
        Check.due("count(3)", most.count(3), 100);
        Check.due("count(4)", most.count(4), 400);
    }

    private static void playIsOneChange() {
        Check.says("Promise 23: They are one change, also if there are none");
        AntTrails x = new AntTrails();
        Check.due("play() of none", x.play(), 0);
        Check.due("count(12)", x.count(12), 1);
        Check.due("undo()", x.undo(), 0);
        AntTrails y = Grounds.of(2);
        Grounds.text(y, "p0,1,5;l1;c0;s0,1;o0;");
        String before = Grounds.all(y);
        Check.due("play() of five", y.play(), 5);
        Check.due("count(12)", y.count(12), 3);
        Check.due("count(1)", y.count(1), 1);
        Check.due("undo()", y.undo(), 2);
        Check.due("count(1)", y.count(1), 0);
        Check.due("count(20)", y.count(20), 4);
        AntTrails z = Grounds.text(Grounds.of(2), "p0,1,5;l1;c0;s0,1;o0;");
        z.play();
        z.undo();
        Check.same("the state after undo()", Grounds.all(z), before);
    }

    private static void playDropsTheOldest() {
        Check.says("if there are 5 states then, the oldest one is dropped");
        AntTrails x = Grounds.of(4);
        Check.due("play() of none", x.play(), 0);
        Check.due("count(12)", x.count(12), 4);
        for (int left = 3; left >= 0; left--) {
            Check.due("undo()", x.undo(), left);
        }
        Check.due("count(0)", x.count(0), 1);
        Check.due("undo() of the one that was dropped", x.undo(), NOT_POSSIBLE);
    }

    private static void playStays() {
        Check.says("Promise 23: Does all orders of the text, which stays");
        AntTrails x = Grounds.text(ground(), "l1;p0,1,9;");
        for (int k = 1; k <= 14; k++) {
            Check.due("play()", x.play(), 2);
            Check.due("count(13)", x.count(13), 10);
            Check.due("count(3)", x.count(3), k);
        }
        Check.due("play() with sixteen paths", x.play(), NOT_POSSIBLE);
        Check.due("count(13)", x.count(13), 10);
        Check.due("count(3)", x.count(3), 14);
        Check.due("its fault", x.fault(0), 3);
        Check.due("its cause", x.fault(2), LIMIT);
    }

    private static void playRefused() {
        Check.says("Promise 23: NOT_POSSIBLE if it has a fault");
        String[] texts = {"!", "l", "l1;l", "l6;", "l1;c0;s0,1;c0;", "p0,1,5;c1;", laps(19) + "l6;"};
        for (String text : texts) {
            AntTrails x = Grounds.text(ground(), text);
            Check.due("play() of " + text, x.play(), NOT_POSSIBLE);
            Check.same("the state", Grounds.all(x), Grounds.all(Grounds.text(ground(), text)));
            Check.due("count(12)", x.count(12), 4);
            Check.due("undo()", x.undo(), 3);
            Check.due("pathOf(1, 4)", x.pathOf(1, 4), 0);
        }
    }

    private static void playDoesAll() {
        Check.says("Promise 23: Does all orders of the text");
        AntTrails x = Grounds.text(ground(), "p0,2,3;p002,0001,04;c0;o1;s0,5;s1,0;s2,99;f2;l2;f1;l1;");
        Check.due("play()", x.play(), 11);
        AntTrails y = ground();
        y.path(0, 2, 3);
        y.path(2, 1, 4);
        y.close(0, true);
        y.close(1, false);
        y.set(0, 5);
        y.set(1, 0);
        y.set(2, 99);
        y.food(2);
        y.lap(2);
        y.food(1);
        y.lap(1);
        Grounds.text(y, "p0,2,3;p002,0001,04;c0;o1;s0,5;s1,0;s2,99;f2;l2;f1;l1;");
        Check.same("the state", Grounds.all(x), Grounds.all(y));
    }
}
