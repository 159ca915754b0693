/** Grounds that tests begin with, and what is done and asked often there. */
final class Grounds {
    private Grounds() {
    }

    static AntTrails of(int places) {
        AntTrails x = new AntTrails();
        for (int k = 0; k < places; k++) {
            x.place();
        }
        return x;
    }

    /** Two places, and paths of these lengths from the nest to the food. */
    static AntTrails withPaths(int... lengths) {
        AntTrails x = of(2);
        for (int length : lengths) {
            x.path(0, 1, length);
        }
        return x;
    }

    /** One way alone, of paths with these lengths: from the nest over 2, 3 and so on to the food at 1. */
    static AntTrails chain(int... lengths) {
        int last = lengths.length;
        AntTrails x = of(last + 1);
        for (int k = 0; k < last; k++) {
            x.path(k == 0 ? 0 : k + 1, k == last - 1 ? 1 : k + 2, lengths[k]);
        }
        return x;
    }

    /** A ground whose one way goes over the places 0, 3, 2, 1 by the paths 2, 0, 1. */
    static AntTrails winding() {
        AntTrails x = of(4);
        x.path(2, 3, 5);
        x.path(1, 2, 7);
        x.path(3, 0, 4);
        return x;
    }

    /** With sixteen paths between the nest and the food, the path k being k + 1 long. */
    static AntTrails allPaths(int places) {
        AntTrails x = of(places);
        for (int k = 0; k < 16; k++) {
            x.path(0, 1, k + 1);
        }
        return x;
    }

    static AntTrails text(AntTrails x, String text) {
        x.clearText();
        for (int k = 0; k < text.length(); k++) {
            x.type(text.charAt(k));
        }
        return x;
    }

    /** All that can be asked, by 393 calls, but for how many states there are. */
    static String all(AntTrails x) {
        StringBuilder all = new StringBuilder();
        for (int what = 0; what <= 26; what++) {
            add(all, what == 12 ? 0 : x.count(what));
        }
        for (int path = 0; path < 16; path++) {
            for (int what = 0; what < 8; what++) {
                add(all, x.pathOf(path, what));
            }
        }
        for (int place = 0; place < 10; place++) {
            for (int what = 0; what < 5; what++) {
                add(all, x.placeOf(place, what));
            }
            for (int path = 0; path < 16; path++) {
                add(all, x.chance(place, path));
            }
            add(all, x.bestAt(place));
        }
        for (int what = 0; what < 4; what++) {
            add(all, x.best(what));
            add(all, x.greedy(what));
            add(all, x.would(5, what));
        }
        for (int what = 0; what < 3; what++) {
            add(all, x.ant(what));
            add(all, x.fault(what));
        }
        add(all, x.over());
        return all.toString();
    }

    private static void add(StringBuilder all, int answer) {
        all.append(answer).append(' ');
    }
}
