import java.util.ArrayDeque;
import java.util.ArrayList;
import java.util.Comparator;
import java.util.Deque;
import java.util.List;
import java.util.regex.Matcher;
import java.util.regex.Pattern;

/**
 * The document once more, written as differently from AntTrails as may be: with lists, a new copy of
 * the state for each question, and a pattern for the orders.
 */
final class Model {
    private static final int INVALID = -1000000001;
    private static final int NOT_POSSIBLE = -1000000002;
    private static final int LIMIT = -1000000003;
    private static final int NOT_FOUND = -1000000004;
    private static final int[][] RANGES = {{1, 5}, {0, 90}, {1, 999}, {0, 9}, {1, 99}, {100, 9999}, {1, 99}};
    private static final Pattern ORDER =
        Pattern.compile("p\\d{1,4},\\d{1,4},\\d{1,4};|[cofl]\\d{1,4};|s\\d{1,4},\\d{1,4};");

    /** A path, and what happened to it. */
    private static final class Road {
        int number;
        int from;
        int to;
        int length;
        int trail;
        int walked;
        boolean closed;

        Road copy() {
            Road r = new Road();
            r.number = number;
            r.from = from;
            r.to = to;
            r.length = length;
            r.trail = trail;
            r.walked = walked;
            r.closed = closed;
            return r;
        }

        int weight() {
            return trail * 20 / length + 1;
        }

        boolean touches(int place) {
            return from == place || to == place;
        }
    }

    /** A way: the places it is at, and the numbers of the paths between them. */
    private static final class Trip {
        final List<Integer> places = new ArrayList<>(List.of(0));
        final List<Integer> roads = new ArrayList<>();
        int length;
        int reason;

        int last() {
            return places.get(places.size() - 1);
        }
    }

    /** A state; its copies share trips, which are never changed once they have ended. */
    private static final class State {
        List<Road> roads = new ArrayList<>();
        List<int[]> places = new ArrayList<>();
        int food = 1;
        long x = 1;
        int[] settings = {4, 20, 100, 1, 10, 1000, 60};
        int laps;
        int[] reasons = new int[3];
        Trip best;
        int bestLap;

        State copy() {
            State s = new State();
            roads.forEach(r -> s.roads.add(r.copy()));
            places.forEach(p -> s.places.add(p.clone()));
            s.food = food;
            s.x = x;
            s.settings = settings.clone();
            s.laps = laps;
            s.reasons = reasons.clone();
            s.best = best;
            s.bestLap = bestLap;
            return s;
        }
    }

    private State s = new State();
    private final Deque<State> history = new ArrayDeque<>();
    private String text = "";

    private int change(State before, int answer) {
        if (answer != INVALID && answer != NOT_POSSIBLE && answer != LIMIT && answer != NOT_FOUND) {
            history.addLast(before);
            if (history.size() == 5) {
                history.removeFirst();
            }
        }
        return answer;
    }

    int place() {
        State before = s.copy();
        if (s.places.size() == 10) {
            return LIMIT;
        }
        s.places.add(new int[2]);
        return change(before, s.places.size() - 1);
    }

    int path(int one, int other, int length) {
        return change(s.copy(), path(s, one, other, length));
    }

    int close(int path, boolean closed) {
        return change(s.copy(), close(s, path, closed));
    }

    int food(int place) {
        return change(s.copy(), food(s, place));
    }

    int lap(int laps) {
        return change(s.copy(), lap(s, laps));
    }

    int forget() {
        State before = s.copy();
        int less = 0;
        for (Road road : s.roads) {
            less += road.trail - s.settings[4];
            road.trail = s.settings[4];
        }
        s.best = null;
        return change(before, less);
    }

    int set(int what, int value) {
        return change(s.copy(), set(s, what, value));
    }

    private static boolean isPlace(State s, int place) {
        return place >= 0 && place < s.places.size();
    }

    private static boolean isRoad(State s, int path) {
        return path >= 0 && path < s.roads.size();
    }

    private static int path(State s, int one, int other, int length) {
        if (!isPlace(s, one) || !isPlace(s, other) || one == other || length < 1 || length > 20) {
            return INVALID;
        }
        if (s.roads.size() == 16) {
            return LIMIT;
        }
        Road road = new Road();
        road.number = s.roads.size();
        road.from = one;
        road.to = other;
        road.length = length;
        road.trail = s.settings[4];
        s.roads.add(road);
        return road.number;
    }

    private static int close(State s, int path, boolean closed) {
        if (!isRoad(s, path)) {
            return INVALID;
        }
        if (s.roads.get(path).closed == closed) {
            return NOT_POSSIBLE;
        }
        s.roads.get(path).closed = closed;
        return (int) s.roads.stream().filter(r -> !r.closed).count();
    }

    private static int food(State s, int place) {
        if (place == 0 || !isPlace(s, place)) {
            return INVALID;
        }
        if (s.food == place) {
            return NOT_POSSIBLE;
        }
        int was = s.food;
        s.food = place;
        s.best = null;
        return was;
    }

    private static int set(State s, int what, int value) {
        if (what < 0 || what > 6 || value < RANGES[what][0] || value > RANGES[what][1]) {
            return INVALID;
        }
        int was = s.settings[what];
        s.settings[what] = value;
        return was;
    }

    private static int lap(State s, int laps) {
        if (laps < 1 || laps > 5) {
            return INVALID;
        }
        if (s.places.size() < 2) {
            return NOT_POSSIBLE;
        }
        int found = 0;
        for (int lap = 0; lap < laps; lap++) {
            found += oneLap(s);
        }
        return found;
    }

    private static int oneLap(State s) {
        List<Trip> trips = new ArrayList<>();
        for (int ant = 0; ant < s.settings[0]; ant++) {
            Trip trip = go(s);
            trips.add(trip);
            s.reasons[trip.reason]++;
            trip.roads.forEach(r -> s.roads.get(r).walked++);
            trip.places.stream().skip(1).forEach(p -> s.places.get(p)[0]++);
            if (trip.reason == 1) {
                s.places.get(trip.last())[1]++;
            }
        }
        trips.removeIf(t -> t.reason != 0);
        for (Road road : s.roads) {
            road.trail -= road.trail * s.settings[1] / 100;
        }
        for (Trip trip : trips) {
            trip.roads.forEach(r -> s.roads.get(r).trail += s.settings[2] / trip.length);
        }
        for (Trip trip : trips) {
            if (s.best == null || trip.length < s.best.length) {
                s.best = trip;
                s.bestLap = s.laps;
            }
        }
        if (s.best != null) {
            s.best.roads.forEach(r -> s.roads.get(r).trail += s.settings[3] * (s.settings[2] / s.best.length));
        }
        for (Road road : s.roads) {
            if (road.trail < s.settings[4]) {
                road.trail = s.settings[4];
            }
            if (road.trail > s.settings[5]) {
                road.trail = s.settings[5];
            }
        }
        s.laps++;
        return trips.size();
    }

    private static List<Road> ahead(State s, Trip trip) {
        List<Road> ahead = new ArrayList<>();
        for (Road road : s.roads) {
            int here = trip.last();
            if (!road.closed && road.touches(here) && !trip.places.contains(road.from + road.to - here)) {
                ahead.add(road);
            }
        }
        return ahead;
    }

    private static void step(Trip trip, Road road) {
        trip.places.add(road.from + road.to - trip.last());
        trip.roads.add(road.number);
        trip.length += road.length;
    }

    private static Trip go(State s) {
        Trip trip = new Trip();
        while (trip.last() != s.food) {
            List<Road> lots = new ArrayList<>();
            for (Road road : ahead(s, trip)) {
                for (int k = 0; k < road.weight(); k++) {
                    lots.add(road);
                }
            }
            if (lots.isEmpty()) {
                trip.reason = 1;
                return trip;
            }
            s.x = s.x * 16807 % 2147483647L;
            Road road = lots.get((int) (s.x % lots.size()));
            if (trip.length + road.length > s.settings[6]) {
                trip.reason = 2;
                return trip;
            }
            step(trip, road);
        }
        return trip;
    }

    int pathOf(int path, int what) {
        if (!isRoad(s, path) || what < 0 || what > 7) {
            return INVALID;
        }
        Road r = s.roads.get(path);
        int ofBest = s.best != null && s.best.roads.contains(path) ? 1 : 0;
        return new int[] {r.from, r.to, r.length, r.trail, r.closed ? 1 : 0, r.weight(), r.walked, ofBest}[what];
    }

    private int far(int place) {
        int size = s.places.size();
        int[][] far = new int[size][size];
        for (int a = 0; a < size; a++) {
            for (int b = 0; b < size; b++) {
                far[a][b] = a == b ? 0 : 99999;
            }
        }
        for (Road r : s.roads) {
            if (!r.closed) {
                far[r.from][r.to] = Math.min(far[r.from][r.to], r.length);
                far[r.to][r.from] = far[r.from][r.to];
            }
        }
        for (int by = 0; by < size; by++) {
            for (int a = 0; a < size; a++) {
                for (int b = 0; b < size; b++) {
                    far[a][b] = Math.min(far[a][b], far[a][by] + far[by][b]);
                }
            }
        }
        return far[0][place] < 99999 ? far[0][place] : NOT_FOUND;
    }

    int placeOf(int place, int what) {
        if (!isPlace(s, place) || what < 0 || what > 4) {
            return INVALID;
        }
        if (what == 0) {
            return (int) s.roads.stream().filter(r -> !r.closed && r.touches(place)).count();
        }
        if (what == 3) {
            return far(place);
        }
        if (what == 4) {
            return s.best != null && s.best.places.contains(place) ? 1 : 0;
        }
        return s.places.get(place)[what - 1];
    }

    int best(int what) {
        if (what < 0 || what > 3) {
            return INVALID;
        }
        if (s.best == null) {
            return NOT_FOUND;
        }
        int set = s.best.roads.stream().mapToInt(r -> 1 << r).sum();
        return new int[] {s.best.length, s.best.roads.size(), s.bestLap, set}[what];
    }

    int bestAt(int step) {
        if (step < 0) {
            return INVALID;
        }
        return s.best == null || step >= s.best.places.size() ? NOT_FOUND : s.best.places.get(step);
    }

    int chance(int place, int path) {
        if (!isPlace(s, place) || !isRoad(s, path)) {
            return INVALID;
        }
        Road road = s.roads.get(path);
        if (road.closed || !road.touches(place)) {
            return NOT_FOUND;
        }
        int sum = s.roads.stream().filter(r -> !r.closed && r.touches(place)).mapToInt(Road::weight).sum();
        return Float.floatToIntBits((float) road.weight() / (float) sum);
    }

    int greedy(int what) {
        if (what < 0 || what > 3) {
            return INVALID;
        }
        if (s.places.size() < 2) {
            return NOT_POSSIBLE;
        }
        Trip trip = new Trip();
        while (trip.last() != s.food) {
            List<Road> ahead = ahead(s, trip);
            if (ahead.isEmpty()) {
                break;
            }
            ahead.sort(Comparator.<Road>comparingInt(r -> -r.trail).thenComparingInt(r -> r.length)
                .thenComparingInt(r -> r.number));
            step(trip, ahead.get(0));
        }
        return new int[] {trip.length, trip.roads.size(), trip.last() == s.food ? 1 : 0, trip.last()}[what];
    }

    int over() {
        if (s.best == null || far(s.food) == NOT_FOUND) {
            return NOT_FOUND;
        }
        return s.best.length - far(s.food);
    }

    int ant(int what) {
        if (what < 0 || what > 2) {
            return INVALID;
        }
        if (s.places.size() < 2) {
            return NOT_POSSIBLE;
        }
        Trip trip = go(s.copy());
        return new int[] {trip.reason, trip.length, trip.last()}[what];
    }

    int would(int laps, int what) {
        State then = s.copy();
        if (what < 0 || what > 3) {
            return INVALID;
        }
        int found = lap(then, laps);
        if (found < 0 || what == 0) {
            return found;
        }
        if (what == 1) {
            return then.reasons[1] - s.reasons[1];
        }
        if (what == 2) {
            return then.best == null ? NOT_FOUND : then.best.length;
        }
        return then.roads.stream().mapToInt(r -> r.trail).sum();
    }

    int count(int what) {
        if (what >= 20 && what <= 26) {
            return s.settings[what - 20];
        }
        if (what < 0 || what > 13) {
            return INVALID;
        }
        int open = (int) s.roads.stream().filter(r -> !r.closed).count();
        int ants = s.reasons[0] + s.reasons[1] + s.reasons[2];
        int trails = s.roads.stream().mapToInt(r -> r.trail).sum();
        int greatest = s.roads.stream().mapToInt(r -> r.trail).max().orElse(0);
        return new int[] {s.places.size(), s.roads.size(), open, s.laps, ants, s.reasons[0], s.reasons[1],
            s.reasons[2], trails, greatest, s.food, (int) s.x, history.size(), text.length()}[what];
    }

    int undo() {
        if (history.isEmpty()) {
            return NOT_POSSIBLE;
        }
        s = history.removeLast();
        return history.size();
    }

    int type(int character) {
        if (character < 32 || character > 126) {
            return INVALID;
        }
        if (text.length() == 60) {
            return LIMIT;
        }
        text += (char) character;
        return text.length();
    }

    int clearText() {
        int length = text.length();
        text = "";
        return length;
    }

    /** Position, reason and cause of the fault on the state, or null; and how many orders were done. */
    private int[] fault(State on, int[] done) {
        int position = 0;
        while (position < text.length()) {
            String rest = text.substring(position);
            Matcher order = ORDER.matcher(rest);
            if (!order.lookingAt()) {
                return new int[] {position, 1, breakOff(rest)};
            }
            int answer = order(on, order.group());
            if (answer < -1000000000) {
                return new int[] {position, 2, answer};
            }
            done[0]++;
            position += order.end();
        }
        return null;
    }

    /** The length of the longest beginning that some order has too. */
    private static int breakOff(String rest) {
        int length = 0;
        while (length < rest.length()) {
            Matcher order = ORDER.matcher(rest.substring(0, length + 1));
            if (!order.matches() && !order.hitEnd()) {
                return length;
            }
            length++;
        }
        return length;
    }

    private static int order(State on, String order) {
        String[] parts = order.substring(1, order.length() - 1).split(",");
        int[] n = new int[3];
        for (int k = 0; k < parts.length; k++) {
            n[k] = Integer.parseInt(parts[k]);
        }
        switch (order.charAt(0)) {
            case 'p':
                return path(on, n[0], n[1], n[2]);
            case 'c':
                return close(on, n[0], true);
            case 'o':
                return close(on, n[0], false);
            case 'f':
                return food(on, n[0]);
            case 's':
                return set(on, n[0], n[1]);
            default:
                return lap(on, n[0]);
        }
    }

    int fault(int what) {
        if (what < 0 || what > 2) {
            return INVALID;
        }
        int[] fault = fault(s.copy(), new int[1]);
        return fault == null ? NOT_FOUND : fault[what];
    }

    int play() {
        int[] done = new int[1];
        if (fault(s.copy(), done) != null) {
            return NOT_POSSIBLE;
        }
        State before = s.copy();
        fault(s, new int[1]);
        return change(before, done[0]);
    }
}
