/**
 * Ants that look for a way from a nest to food over paths, by the trails that the ants ahead of them
 * laid. README.md says how to use it.
 */
public final class AntTrails {
    public static final int INVALID_ARGUMENT = -1000000001;
    public static final int NOT_POSSIBLE = -1000000002;
    public static final int LIMIT_REACHED = -1000000003;
    public static final int NOT_FOUND = -1000000004;

    private static final int MOST_PLACES = 10;
    private static final int MOST_PATHS = 16;
    private static final int MOST_STATES = 4;
    private static final int MOST_SIGNS = 60;
    private static final int MOST_LAPS = 5;
    private static final int MOST_DIGITS = 4;
    private static final int LONGEST_PATH = 20;
    private static final int LOWEST_SIGN = 32;
    private static final int HIGHEST_SIGN = 126;

    private static final int NEST = 0;
    private static final int NONE = -1;

    private static final int FOUND = 0;
    private static final int STUCK = 1;
    private static final int TIRED = 2;

    private static final int SETTINGS = 7;
    private static final int ANTS = 0;
    private static final int VAPOUR = 1;
    private static final int LAID = 2;
    private static final int LAID_ON_BEST = 3;
    private static final int LOWER_BOUND = 4;
    private static final int UPPER_BOUND = 5;
    private static final int TIREDNESS = 6;
    private static final int[] LEAST = {1, 0, 1, 0, 1, 100, 1};
    private static final int[] MOST = {5, 90, 999, 9, 99, 9999, 99};
    private static final int[] AT_FIRST = {4, 20, 100, 1, 10, 1000, 60};

    private final Ground now = new Ground();
    /** What is only tried out is done here, so that the calls need no new objects. */
    private final Ground tried = new Ground();
    private final History history = new History();
    private final Colony colony = new Colony();
    private final Survey survey = new Survey();
    private final Orders orders = new Orders();

    public AntTrails() {
    }

    // ---- places, paths

    public int place() {
        history.prepare(now);
        return history.settle(now.addPlace());
    }

    public int path(int one, int other, int length) {
        history.prepare(now);
        return history.settle(now.addPath(one, other, length));
    }

    public int close(int path, boolean closed) {
        history.prepare(now);
        return history.settle(now.bar(path, closed));
    }

    public int food(int place) {
        history.prepare(now);
        return history.settle(now.moveFood(place));
    }

    // ---- laps

    public int lap(int laps) {
        history.prepare(now);
        return history.settle(colony.passLaps(now, laps));
    }

    public int forget() {
        history.prepare(now);
        return history.settle(now.clearTrails());
    }

    public int set(int what, int value) {
        history.prepare(now);
        return history.settle(now.changeSetting(what, value));
    }

    // ---- what there is

    public int pathOf(int path, int what) {
        if (!now.isPath(path)) {
            return INVALID_ARGUMENT;
        }
        switch (what) {
            case 0:
                return now.oneEnd[path];
            case 1:
                return now.otherEnd[path];
            case 2:
                return now.lengths[path];
            case 3:
                return now.trails[path];
            case 4:
                return now.isClosed(path) ? 1 : 0;
            case 5:
                return now.weight(path);
            case 6:
                return now.walked[path];
            case 7:
                return now.best.hasPath(path) ? 1 : 0;
            default:
                return INVALID_ARGUMENT;
        }
    }

    public int placeOf(int place, int what) {
        if (!now.isPlace(place)) {
            return INVALID_ARGUMENT;
        }
        switch (what) {
            case 0:
                return now.openPathsAt(place);
            case 1:
                return now.came[place];
            case 2:
                return now.stuckAt[place];
            case 3:
                return survey.distance(now, place);
            case 4:
                return now.hasBest() && now.best.hasPlace(place) ? 1 : 0;
            default:
                return INVALID_ARGUMENT;
        }
    }

    public int best(int what) {
        if (!isWithin(what, 0, 3)) {
            return INVALID_ARGUMENT;
        }
        if (!now.hasBest()) {
            return NOT_FOUND;
        }
        switch (what) {
            case 0:
                return now.best.length;
            case 1:
                return now.best.steps;
            case 2:
                return now.bestLap;
            default:
                return now.best.pathSet;
        }
    }

    public int bestAt(int step) {
        if (step < 0) {
            return INVALID_ARGUMENT;
        }
        if (!now.hasBest() || step > now.best.steps) {
            return NOT_FOUND;
        }
        return now.best.placeAt(step);
    }

    // ---- what would be

    public int chance(int place, int path) {
        if (!now.isPlace(place) || !now.isPath(path)) {
            return INVALID_ARGUMENT;
        }
        int sum = now.weightsAt(place);
        if (now.across(path, place) == NONE || sum < 1) {
            return NOT_FOUND;
        }
        return bitsOf((float) now.weight(path) / (float) sum);
    }

    public int greedy(int what) {
        if (!isWithin(what, 0, 3)) {
            return INVALID_ARGUMENT;
        }
        if (!now.hasFood()) {
            return NOT_POSSIBLE;
        }
        survey.followTrails(now);
        switch (what) {
            case 0:
                return survey.way.length;
            case 1:
                return survey.way.steps;
            case 2:
                return survey.way.end() == now.food ? 1 : 0;
            default:
                return survey.way.end();
        }
    }

    public int over() {
        int shortest = survey.distance(now, now.food);
        if (!now.hasBest() || shortest == NOT_FOUND) {
            return NOT_FOUND;
        }
        return now.best.length - shortest;
    }

    public int ant(int what) {
        if (!isWithin(what, 0, 2)) {
            return INVALID_ARGUMENT;
        }
        if (!now.hasFood()) {
            return NOT_POSSIBLE;
        }
        Ground.copy(now, tried);
        int reason = colony.walk(tried);
        switch (what) {
            case 0:
                return reason;
            case 1:
                return colony.way.length;
            default:
                return colony.way.end();
        }
    }

    public int would(int laps, int what) {
        if (!isWithin(what, 0, 3)) {
            return INVALID_ARGUMENT;
        }
        Ground.copy(now, tried);
        int found = colony.passLaps(tried, laps);
        if (isError(found)) {
            return found;
        }
        switch (what) {
            case 0:
                return found;
            case 1:
                return tried.ended[STUCK] - now.ended[STUCK];
            case 2:
                return tried.hasBest() ? tried.best.length : NOT_FOUND;
            default:
                return tried.allTrails();
        }
    }

    public int count(int what) {
        if (isWithin(what, 20, 19 + SETTINGS)) {
            return now.setting(what - 20);
        }
        switch (what) {
            case 0:
                return now.placeCount;
            case 1:
                return now.pathCount;
            case 2:
                return now.openPaths();
            case 3:
                return now.laps;
            case 4:
                return now.ended[FOUND] + now.ended[STUCK] + now.ended[TIRED];
            case 5:
                return now.ended[FOUND];
            case 6:
                return now.ended[STUCK];
            case 7:
                return now.ended[TIRED];
            case 8:
                return now.allTrails();
            case 9:
                return now.greatestTrail();
            case 10:
                return now.food;
            case 11:
                return now.x;
            case 12:
                return history.kept;
            case 13:
                return orders.length;
            default:
                return INVALID_ARGUMENT;
        }
    }

    public int undo() {
        return history.restore(now);
    }

    // ---- texts

    public int type(int character) {
        return orders.append(character);
    }

    public int clearText() {
        return orders.clear();
    }

    public int fault(int what) {
        if (!isWithin(what, 0, 2)) {
            return INVALID_ARGUMENT;
        }
        Ground.copy(now, tried);
        orders.carryOut(tried, colony);
        if (orders.faultReason == 0) {
            return NOT_FOUND;
        }
        switch (what) {
            case 0:
                return orders.faultPosition;
            case 1:
                return orders.faultReason;
            default:
                return orders.faultCause;
        }
    }

    public int play() {
        Ground.copy(now, tried);
        int done = orders.carryOut(tried, colony);
        if (orders.faultReason != 0) {
            return NOT_POSSIBLE;
        }
        history.prepare(now);
        Ground.copy(tried, now);
        return history.settle(done);
    }

    // ---- what all of it uses

    private static boolean isWithin(int value, int least, int most) {
        return value >= least && value <= most;
    }

    /** All error codes lie below every other answer: forget may answer below 0, but not that far. */
    private static boolean isError(int answer) {
        return answer <= INVALID_ARGUMENT;
    }

    private static boolean hasBit(int set, int number) {
        return ((set >> number) & 1) == 1;
    }

    private static void copyRow(int[] from, int[] to) {
        for (int k = 0; k < from.length && k < to.length; k++) {
            to[k] = from[k];
        }
    }

    /** The bits of a float above 0 and not above 1: doubling it is exact, so no bit is lost. */
    private static int bitsOf(float share) {
        float mantissa = share;
        int exponent = 127;
        while (mantissa < 1f && exponent > 1) {
            mantissa = mantissa * 2f;
            exponent--;
        }
        int fraction = (int) ((mantissa - 1f) * 8388608f);
        return (exponent << 23) | fraction;
    }

    /** A way that begins at the nest and is at no place twice. */
    private static final class Way {
        /** The first one is always the nest. */
        private final int[] places = new int[MOST_PLACES];
        private int steps = 0;
        private int length = 0;
        private int pathSet = 0;
        private int placeSet = 1 << NEST;

        void begin() {
            steps = 0;
            length = 0;
            pathSet = 0;
            placeSet = 1 << NEST;
        }

        void go(int path, int to, int farther) {
            if (steps < 0 || steps + 1 >= places.length) {
                return;
            }
            steps++;
            places[steps] = to;
            length += farther;
            pathSet |= 1 << path;
            placeSet |= 1 << to;
        }

        int placeAt(int step) {
            return step >= 0 && step < places.length ? places[step] : NONE;
        }

        int end() {
            return placeAt(steps);
        }

        boolean hasPath(int path) {
            return hasBit(pathSet, path);
        }

        boolean hasPlace(int place) {
            return hasBit(placeSet, place);
        }

        /** Whether it is a place, and the way has not been there. */
        boolean isNew(int place) {
            return place != NONE && !hasBit(placeSet, place);
        }

        static void copy(Way from, Way to) {
            if (from == null || to == null) {
                return;
            }
            copyRow(from.places, to.places);
            to.steps = from.steps;
            to.length = from.length;
            to.pathSet = from.pathSet;
            to.placeSet = from.placeSet;
        }
    }

    /** All that a change may change: places, paths, trails, settings and what has happened so far. */
    private static final class Ground {
        private int placeCount = 0;
        private final int[] came = new int[MOST_PLACES];
        private final int[] stuckAt = new int[MOST_PLACES];

        private int pathCount = 0;
        private final int[] oneEnd = new int[MOST_PATHS];
        private final int[] otherEnd = new int[MOST_PATHS];
        private final int[] lengths = new int[MOST_PATHS];
        private final int[] trails = new int[MOST_PATHS];
        private final int[] walked = new int[MOST_PATHS];
        /** 1 for a closed path, 0 for an open one. */
        private final int[] closed = new int[MOST_PATHS];

        private int food = 1;
        private int x = 1;
        private final int[] settings = new int[SETTINGS];
        private int laps = 0;
        /** How many ants ended so: FOUND, STUCK, TIRED. */
        private final int[] ended = new int[3];
        /** The best way so far; without steps if there is none. */
        private final Way best = new Way();
        private int bestLap = 0;

        Ground() {
            copyRow(AT_FIRST, settings);
        }

        static void copy(Ground from, Ground to) {
            if (from == null || to == null) {
                return;
            }
            to.placeCount = from.placeCount;
            copyRow(from.came, to.came);
            copyRow(from.stuckAt, to.stuckAt);
            to.pathCount = from.pathCount;
            copyRow(from.oneEnd, to.oneEnd);
            copyRow(from.otherEnd, to.otherEnd);
            copyRow(from.lengths, to.lengths);
            copyRow(from.trails, to.trails);
            copyRow(from.walked, to.walked);
            copyRow(from.closed, to.closed);
            to.food = from.food;
            to.x = from.x;
            copyRow(from.settings, to.settings);
            to.laps = from.laps;
            copyRow(from.ended, to.ended);
            Way.copy(from.best, to.best);
            to.bestLap = from.bestLap;
        }

        // What there is.

        boolean isPlace(int place) {
            return place >= 0 && place < placeCount && place < MOST_PLACES;
        }

        boolean isPath(int path) {
            return path >= 0 && path < pathCount && path < MOST_PATHS;
        }

        /** The food is never at the nest, so it is anywhere just if there are two places. */
        boolean hasFood() {
            return placeCount >= 2;
        }

        boolean hasBest() {
            return best.steps > 0;
        }

        boolean isClosed(int path) {
            return isPath(path) && closed[path] == 1;
        }

        int setting(int what) {
            return what >= 0 && what < settings.length ? settings[what] : 0;
        }

        int lengthOf(int path) {
            return isPath(path) ? lengths[path] : 0;
        }

        int weight(int path) {
            if (!isPath(path) || lengths[path] < 1) {
                return 0;
            }
            return trails[path] * 20 / lengths[path] + 1;
        }

        /** Where an open path leads from a place, or NONE if it is closed or not there. */
        int across(int path, int place) {
            if (!isPath(path) || closed[path] == 1) {
                return NONE;
            }
            if (oneEnd[path] == place) {
                return otherEnd[path];
            }
            return otherEnd[path] == place ? oneEnd[path] : NONE;
        }

        int openPaths() {
            int open = 0;
            for (int path = 0; path < pathCount; path++) {
                open += isClosed(path) ? 0 : 1;
            }
            return open;
        }

        int openPathsAt(int place) {
            int open = 0;
            for (int path = 0; path < pathCount; path++) {
                open += across(path, place) == NONE ? 0 : 1;
            }
            return open;
        }

        int weightsAt(int place) {
            int sum = 0;
            for (int path = 0; path < pathCount; path++) {
                sum += across(path, place) == NONE ? 0 : weight(path);
            }
            return sum;
        }

        int allTrails() {
            int sum = 0;
            for (int path = 0; path < pathCount && path < trails.length; path++) {
                sum += trails[path];
            }
            return sum;
        }

        int greatestTrail() {
            int greatest = 0;
            for (int path = 0; path < pathCount && path < trails.length; path++) {
                greatest = Math.max(greatest, trails[path]);
            }
            return greatest;
        }

        // The changes, all but those by ants; what returns an error has changed nothing.

        int addPlace() {
            if (placeCount >= MOST_PLACES) {
                return LIMIT_REACHED;
            }
            placeCount++;
            return placeCount - 1;
        }

        int addPath(int one, int other, int length) {
            if (!isPlace(one) || !isPlace(other) || one == other || !isWithin(length, 1, LONGEST_PATH)) {
                return INVALID_ARGUMENT;
            }
            if (pathCount < 0 || pathCount >= MOST_PATHS) {
                return LIMIT_REACHED;
            }
            int path = pathCount;
            oneEnd[path] = one;
            otherEnd[path] = other;
            lengths[path] = length;
            trails[path] = setting(LOWER_BOUND);
            pathCount++;
            return path;
        }

        int bar(int path, boolean shut) {
            if (!isPath(path)) {
                return INVALID_ARGUMENT;
            }
            if (isClosed(path) == shut) {
                return NOT_POSSIBLE;
            }
            closed[path] = shut ? 1 : 0;
            return openPaths();
        }

        int moveFood(int place) {
            if (place == NEST || !isPlace(place)) {
                return INVALID_ARGUMENT;
            }
            if (place == food) {
                return NOT_POSSIBLE;
            }
            int before = food;
            food = place;
            best.begin();
            return before;
        }

        int clearTrails() {
            int before = allTrails();
            for (int path = 0; path < pathCount && path < trails.length; path++) {
                trails[path] = setting(LOWER_BOUND);
            }
            best.begin();
            return before - allTrails();
        }

        int changeSetting(int what, int value) {
            if (!isWithin(what, 0, SETTINGS - 1) || !isWithin(value, LEAST[what], MOST[what])) {
                return INVALID_ARGUMENT;
            }
            int before = settings[what];
            settings[what] = value;
            return before;
        }

        // What ants do to it.

        int draw(int many) {
            if (many < 1) {
                return 0;
            }
            x = (int) (x * 16807L % 2147483647L);
            return x % many;
        }

        void countAnt(Way way, int reason) {
            for (int path = 0; path < walked.length; path++) {
                walked[path] += way.hasPath(path) ? 1 : 0;
            }
            for (int place = NEST + 1; place < came.length; place++) {
                came[place] += way.hasPlace(place) ? 1 : 0;
            }
            if (reason >= 0 && reason < ended.length) {
                ended[reason]++;
            }
            int end = way.end();
            if (reason == STUCK && isPlace(end)) {
                stuckAt[end]++;
            }
        }

        void keepIfBetter(Way way) {
            if (!hasBest() || way.length < best.length) {
                Way.copy(way, best);
                bestLap = laps;
            }
        }

        /** How much an ant lays on each path of a way. */
        int laidOn(Way way) {
            return way.length < 1 ? 0 : setting(LAID) / way.length;
        }

        /** What becomes of the trails at the end of a lap in which the ants laid so much. */
        void changeTrails(int[] laid) {
            int onBest = hasBest() ? setting(LAID_ON_BEST) * laidOn(best) : 0;
            for (int path = 0; path < pathCount && path < trails.length && path < laid.length; path++) {
                int trail = trails[path] - trails[path] * setting(VAPOUR) / 100 + laid[path];
                trail += best.hasPath(path) ? onBest : 0;
                trails[path] = Math.min(Math.max(trail, setting(LOWER_BOUND)), setting(UPPER_BOUND));
            }
        }
    }

    /** The ants, who go over a ground one after the other. */
    private static final class Colony {
        /** The way of the ant that went last. */
        private final Way way = new Way();
        /** What the ants of a lap lay waits here, as they all go by the trails ahead of the lap. */
        private final int[] laid = new int[MOST_PATHS];
        /** The weights by which the ant draws; 0 for a path that it can not take. */
        private final int[] weights = new int[MOST_PATHS];

        /** Returns how many ants found the food in the laps. */
        int passLaps(Ground ground, int laps) {
            if (!isWithin(laps, 1, MOST_LAPS)) {
                return INVALID_ARGUMENT;
            }
            if (!ground.hasFood()) {
                return NOT_POSSIBLE;
            }
            int before = ground.ended[FOUND];
            int ants = ground.setting(ANTS);
            for (int lap = 0; lap < laps; lap++) {
                clearLaid();
                for (int ant = 0; ant < ants; ant++) {
                    int reason = walk(ground);
                    ground.countAnt(way, reason);
                    if (reason == FOUND) {
                        layTrail(ground.laidOn(way));
                        ground.keepIfBetter(way);
                    }
                }
                ground.changeTrails(laid);
                ground.laps++;
            }
            return ground.ended[FOUND] - before;
        }

        private void clearLaid() {
            for (int path = 0; path < laid.length; path++) {
                laid[path] = 0;
            }
        }

        private void layTrail(int much) {
            for (int path = 0; path < laid.length; path++) {
                laid[path] += way.hasPath(path) ? much : 0;
            }
        }

        /** Lets one ant go; of the ground it changes x alone. Returns how it ends. */
        int walk(Ground ground) {
            way.begin();
            for (int step = 0; step < MOST_PLACES && way.end() != ground.food; step++) {
                int sum = lookAhead(ground);
                if (sum == 0) {
                    return STUCK;
                }
                int path = pathAhead(ground, ground.draw(sum));
                int farther = ground.lengthOf(path);
                if (way.length + farther > ground.setting(TIREDNESS)) {
                    return TIRED;
                }
                way.go(path, ground.across(path, way.end()), farther);
            }
            return FOUND;
        }

        /** Puts down the weights of the paths on which the way can go on. Returns their sum. */
        private int lookAhead(Ground ground) {
            int here = way.end();
            int sum = 0;
            for (int path = 0; path < ground.pathCount && path < weights.length; path++) {
                weights[path] = way.isNew(ground.across(path, here)) ? ground.weight(path) : 0;
                sum += weights[path];
            }
            return sum;
        }

        /** The path ahead among whose numbers the drawn one is. */
        private int pathAhead(Ground ground, int drawn) {
            int rest = drawn;
            for (int path = 0; path < ground.pathCount && path < weights.length; path++) {
                rest -= weights[path];
                if (rest < 0) {
                    return path;
                }
            }
            return NONE;
        }
    }

    /** What can be reckoned without ants. */
    private static final class Survey {
        /** Farther than any way can be. */
        private static final int TOO_FAR = 1000000;

        private final int[] far = new int[MOST_PLACES];
        /** The way along the greatest trails. */
        private final Way way = new Way();

        /** How far a place is from the nest over open paths, or NOT_FOUND. */
        int distance(Ground ground, int place) {
            if (!ground.isPlace(place)) {
                return NOT_FOUND;
            }
            for (int k = 0; k < far.length; k++) {
                far[k] = k == NEST ? 0 : TOO_FAR;
            }
            // A shortest way has fewer paths than there are places.
            for (int round = 1; round < ground.placeCount; round++) {
                for (int path = 0; path < ground.pathCount; path++) {
                    shorten(ground, path);
                }
            }
            return place < far.length && far[place] < TOO_FAR ? far[place] : NOT_FOUND;
        }

        private void shorten(Ground ground, int path) {
            if (!ground.isPath(path) || ground.isClosed(path)) {
                return;
            }
            int one = ground.oneEnd[path];
            int other = ground.otherEnd[path];
            if (isWithin(one, 0, far.length - 1) && isWithin(other, 0, far.length - 1)) {
                far[one] = Math.min(far[one], far[other] + ground.lengths[path]);
                far[other] = Math.min(far[other], far[one] + ground.lengths[path]);
            }
        }

        void followTrails(Ground ground) {
            way.begin();
            for (int step = 0; step < MOST_PLACES && way.end() != ground.food; step++) {
                int path = greatestAhead(ground);
                if (path == NONE) {
                    return;
                }
                way.go(path, ground.across(path, way.end()), ground.lengthOf(path));
            }
        }

        private int greatestAhead(Ground ground) {
            int here = way.end();
            int greatest = NONE;
            for (int path = 0; path < ground.pathCount; path++) {
                boolean leadsOn = way.isNew(ground.across(path, here));
                if (leadsOn && (greatest == NONE || isGreater(ground, path, greatest))) {
                    greatest = path;
                }
            }
            return greatest;
        }

        private static boolean isGreater(Ground ground, int path, int than) {
            if (!ground.isPath(path) || !ground.isPath(than)) {
                return false;
            }
            if (ground.trails[path] != ground.trails[than]) {
                return ground.trails[path] > ground.trails[than];
            }
            return ground.lengths[path] < ground.lengths[than];
        }
    }

    /** The states ahead of the latest changes, the oldest one first. */
    private static final class History {
        /** One state more than are kept: the one ahead of a call that may yet return an error. */
        private final Ground[] states = new Ground[MOST_STATES + 1];
        private int kept = 0;

        History() {
            for (int k = 0; k < states.length; k++) {
                states[k] = new Ground();
            }
        }

        /** Puts down the state ahead of a call that may be a change. */
        void prepare(Ground ground) {
            if (kept >= 0 && kept < states.length) {
                Ground.copy(ground, states[kept]);
            }
        }

        /** Keeps the prepared state if the call returns no error. Returns what the call returns. */
        int settle(int answer) {
            if (!isError(answer)) {
                kept++;
                if (kept > MOST_STATES) {
                    dropOldest();
                }
            }
            return answer;
        }

        private void dropOldest() {
            Ground oldest = states[0];
            for (int k = 1; k < states.length; k++) {
                states[k - 1] = states[k];
            }
            states[states.length - 1] = oldest;
            kept--;
        }

        int restore(Ground ground) {
            if (kept < 1 || kept > states.length) {
                return NOT_POSSIBLE;
            }
            kept--;
            Ground.copy(states[kept], ground);
            return kept;
        }
    }

    /** The text, and the order of it that was read last. */
    private static final class Orders {
        private final char[] signs = new char[MOST_SIGNS];
        private int length = 0;

        private int kind = 0;
        private final int[] numbers = new int[3];
        /** Where the reading is: behind an order that has its form, else where the order breaks off. */
        private int at = 0;

        /** 0 if the text has no fault. */
        private int faultReason = 0;
        private int faultPosition = 0;
        private int faultCause = 0;

        int append(int character) {
            if (!isWithin(character, LOWEST_SIGN, HIGHEST_SIGN)) {
                return INVALID_ARGUMENT;
            }
            if (length < 0 || length >= signs.length) {
                return LIMIT_REACHED;
            }
            signs[length] = (char) character;
            length++;
            return length;
        }

        int clear() {
            int before = length;
            length = 0;
            return before;
        }

        /** Does the orders until one is not possible, which is the fault. Returns how many it did. */
        int carryOut(Ground ground, Colony colony) {
            faultReason = 0;
            int start = 0;
            int done = 0;
            while (start < length && done < MOST_SIGNS) {
                if (!read(start)) {
                    noteFault(start, 1, at - start);
                    return done;
                }
                int answer = carryOutOne(ground, colony);
                if (isError(answer)) {
                    noteFault(start, 2, answer);
                    return done;
                }
                done++;
                start = at;
            }
            return done;
        }

        private void noteFault(int position, int reason, int cause) {
            faultPosition = position;
            faultReason = reason;
            faultCause = cause;
        }

        private int carryOutOne(Ground ground, Colony colony) {
            switch (kind) {
                case 'p':
                    return ground.addPath(numbers[0], numbers[1], numbers[2]);
                case 'c':
                    return ground.bar(numbers[0], true);
                case 'o':
                    return ground.bar(numbers[0], false);
                case 'f':
                    return ground.moveFood(numbers[0]);
                case 's':
                    return ground.changeSetting(numbers[0], numbers[1]);
                default:
                    return colony.passLaps(ground, numbers[0]);
            }
        }

        /** Reads the order that starts there. Returns whether it has its form, its ";" included. */
        private boolean read(int start) {
            at = start;
            kind = signHere();
            int wanted = numbersOf(kind);
            if (wanted == 0) {
                return false;
            }
            at++;
            for (int k = 0; k < wanted; k++) {
                if (k > 0 && !skip(',')) {
                    return false;
                }
                if (!readNumber(k)) {
                    return false;
                }
            }
            return skip(';');
        }

        /** How many numbers an order has that begins so; 0 if none does. */
        private static int numbersOf(int kind) {
            switch (kind) {
                case 'p':
                    return 3;
                case 's':
                    return 2;
                case 'c':
                case 'o':
                case 'f':
                case 'l':
                    return 1;
                default:
                    return 0;
            }
        }

        /** The sign where the reading is; behind the text it is one that no text holds. */
        private char signHere() {
            return at >= 0 && at < length && at < signs.length ? signs[at] : (char) 0;
        }

        private boolean skip(char sign) {
            if (signHere() != sign) {
                return false;
            }
            at++;
            return true;
        }

        private boolean readNumber(int k) {
            int number = 0;
            int digits = 0;
            while (digits < MOST_DIGITS && signHere() >= '0' && signHere() <= '9') {
                number = number * 10 + (signHere() - '0');
                digits++;
                at++;
            }
            if (k >= 0 && k < numbers.length) {
                numbers[k] = number;
            }
            return digits > 0;
        }
    }
}
