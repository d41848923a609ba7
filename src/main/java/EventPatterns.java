/**
 * Patterns that are looked for in the latest events of a row: steps of one event or of some, tests
 * against the event ahead or the first one, events side by side or with others between; how many
 * ways there are, and each of them by its number.
 *
 * <p>Inside, a kept event is known by its PLACE, 0 for the oldest that is kept.
 */
public final class EventPatterns {
    /** There is none. */
    public static final int NONE = -1;

    private static final int MOST_EVENTS = 400;
    private static final int MOST_KEPT = 16;
    private static final int LATEST_TIME = 1000000;
    private static final int HIGHEST_KIND = 7;

    private static final int CLOSE = 0;
    private static final int LOOSE = 1;
    private static final int WIDEST_SPAN = 1000000;

    private static final int MOST_STEPS = 5;
    private static final int ALL_KINDS = 255;

    private static final int TEST_NONE = 0;
    private static final int TEST_ABOVE = 1;
    private static final int TEST_BELOW = 2;
    private static final int TEST_AS_FIRST = 3;
    private static final int TEST_NOT_BELOW_N = 4;

    private static final int WHAT_NUMBER = 0;
    private static final int WHAT_STEP = 1;

    private final int[] eventTimes = new int[MOST_KEPT];
    private final int[] eventKinds = new int[MOST_KEPT];
    private final int[] eventValues = new int[MOST_KEPT];
    private int came;
    private int kept;

    private final int[] stepKinds = new int[MOST_STEPS];
    private final int[] stepTests = new int[MOST_STEPS];
    private final int[] stepBounds = new int[MOST_STEPS];
    private final boolean[] stepMany = new boolean[MOST_STEPS];
    private int style;
    private int span;
    private int steps;

    // Only scratch room of a single call: made once, since a run may not make many arrays.
    private final int[][] ways = new int[MOST_KEPT][MOST_STEPS];
    private final int[] foundPlaces = new int[MOST_KEPT];
    private final int[] foundSteps = new int[MOST_KEPT];
    private int foundLength;

    /** No events; a pattern of style 0 and span 0 without steps. */
    public EventPatterns() {
        came = 0;
        kept = 0;
        style = CLOSE;
        span = 0;
        steps = 0;
        foundLength = 0;
    }

    /** Takes an event and answers its number. */
    public int event(int time, int kind, int value)
            throws IllegalArgumentException, UnsupportedOperationException {
        if (time < earliestTime() || time > LATEST_TIME) {
            throw new IllegalArgumentException("no such time here");
        }
        if (kind < 0 || kind > HIGHEST_KIND) {
            throw new IllegalArgumentException("no such kind");
        }
        if (came >= MOST_EVENTS) {
            throw new UnsupportedOperationException("no room for more events");
        }
        if (kept >= MOST_KEPT) {
            dropOldest();
        }
        eventTimes[kept] = time;
        eventKinds[kept] = kind;
        eventValues[kept] = value;
        kept++;
        came++;
        return came - 1;
    }

    /** All events go; the pattern stays. */
    public void clear() {
        came = 0;
        kept = 0;
    }

    /** Begins a pattern without steps. */
    public void pattern(int style, int span) throws IllegalArgumentException {
        if (style != CLOSE && style != LOOSE) {
            throw new IllegalArgumentException("no such style");
        }
        if (span < 0 || span > WIDEST_SPAN) {
            throw new IllegalArgumentException("no such span");
        }
        this.style = style;
        this.span = span;
        steps = 0;
    }

    /** Adds a step to the pattern and answers its number. */
    public int step(int kinds, int test, int n, boolean many)
            throws IllegalArgumentException, UnsupportedOperationException {
        if (kinds < 1 || kinds > ALL_KINDS) {
            throw new IllegalArgumentException("no such kinds");
        }
        if (test < TEST_NONE || test > TEST_NOT_BELOW_N) {
            throw new IllegalArgumentException("no such test");
        }
        if (steps >= MOST_STEPS) {
            throw new UnsupportedOperationException("no room for more steps");
        }
        stepKinds[steps] = kinds;
        stepTests[steps] = test;
        stepBounds[steps] = n;
        stepMany[steps] = many;
        steps++;
        return steps - 1;
    }

    /** How many matches there are. */
    public int count() throws IllegalStateException {
        needSteps();
        return countEnding(0);
    }

    /** How many matches end with the latest event. */
    public int latest() throws IllegalStateException {
        needSteps();
        return countEnding(kept - 1);
    }

    /** How many events match k has. */
    public int length(int k) throws IllegalStateException, IndexOutOfBoundsException {
        needSteps();
        needMatch(k);
        return foundLength;
    }

    /** Of event i of match k its number (what = 0) or its step (what = 1). */
    public int match(int k, int i, int what)
            throws IllegalStateException, IndexOutOfBoundsException, IllegalArgumentException {
        needSteps();
        needMatch(k);
        if (i < 0 || i >= foundLength) {
            throw new IndexOutOfBoundsException("no such event in the match");
        }
        if (what == WHAT_NUMBER) {
            return came - kept + foundPlaces[i];
        }
        if (what == WHAT_STEP) {
            return foundSteps[i];
        }
        throw new IllegalArgumentException("no such what");
    }

    /** How many events there were. */
    public int events() {
        return came;
    }

    private int earliestTime() {
        return kept > 0 ? eventTimes[kept - 1] : 0;
    }

    private void dropOldest() {
        for (int place = 1; place < MOST_KEPT; place++) {
            eventTimes[place - 1] = eventTimes[place];
            eventKinds[place - 1] = eventKinds[place];
            eventValues[place - 1] = eventValues[place];
        }
        kept = MOST_KEPT - 1;
    }

    private void needSteps() {
        if (steps == 0) {
            throw new IllegalStateException("the pattern has no steps");
        }
    }

    private void needMatch(int k) {
        if (!find(k)) {
            throw new IndexOutOfBoundsException("no such match");
        }
    }

    /** How many matches end at a place that is not below the given one. */
    private int countEnding(int lowestEnd) {
        int sum = 0;
        for (int first = 0; first < kept; first++) {
            sum += waysFrom(first, lowestEnd);
        }
        return sum;
    }

    /**
     * How many matches begin at first and end not below lowestEnd. Also leaves in ways[place][step],
     * for each place from first on, how many ways such a match that has come to place with step can
     * end or go on. These are counted and never listed, as there may be millions of them: what a
     * match may go on with hangs on nothing but its first event, its last one and that one's step.
     */
    private int waysFrom(int first, int lowestEnd) {
        if (!fits(first, 0, first, first)) {
            return 0;
        }
        for (int place = kept - 1; place >= first; place--) {
            for (int step = 0; step < steps; step++) {
                ways[place][step] = waysOn(first, place, step, lowestEnd);
            }
        }
        return ways[first][0];
    }

    private int waysOn(int first, int place, int step, int lowestEnd) {
        int sum = isLastStep(step) && place >= lowestEnd ? 1 : 0;
        for (int next = place + 1; next < kept && mayFollow(first, place, next); next++) {
            sum += waysBySameStep(first, place, step, next);
            sum += waysByNextStep(first, place, step, next);
        }
        return sum;
    }

    private boolean isLastStep(int step) {
        return step == steps - 1;
    }

    /** Once it fails for a next place, it fails for all later ones: times never fall. */
    private boolean mayFollow(int first, int place, int next) {
        if (style == CLOSE && next != place + 1) {
            return false;
        }
        return eventTimes[next] - eventTimes[first] <= span;
    }

    private int waysBySameStep(int first, int place, int step, int next) {
        if (!stepMany[step] || !fits(next, step, place, first)) {
            return 0;
        }
        return ways[next][step];
    }

    private int waysByNextStep(int first, int place, int step, int next) {
        if (isLastStep(step) || !fits(next, step + 1, place, first)) {
            return 0;
        }
        return ways[next][step + 1];
    }

    private boolean fits(int place, int step, int ahead, int first) {
        if ((stepKinds[step] >> eventKinds[place] & 1) == 0) {
            return false;
        }
        int value = eventValues[place];
        switch (stepTests[step]) {
            case TEST_ABOVE:
                return place == first || value > eventValues[ahead];
            case TEST_BELOW:
                return place == first || value < eventValues[ahead];
            case TEST_AS_FIRST:
                return value == eventValues[first];
            case TEST_NOT_BELOW_N:
                return value >= stepBounds[step];
            default:
                return true;
        }
    }

    /** Looks for match k and leaves it in the found rows; false if there is no such match. */
    private boolean find(int k) {
        if (k < 0) {
            return false;
        }
        int left = k;
        for (int first = 0; first < kept; first++) {
            int here = waysFrom(first, 0);
            if (left < here) {
                walk(first, left);
                return true;
            }
            left -= here;
        }
        return false;
    }

    /** Lays out the match that has the given number among those that begin at first. */
    private void walk(int first, int number) {
        int left = number;
        int place = first;
        int step = 0;
        foundLength = 0;
        addFound(place, step);
        for (int next = first + 1; next < kept; next++) {
            // One that ends here comes ahead of all that go on, and was counted with them.
            if (next == place + 1 && isLastStep(step)) {
                if (left == 0) {
                    return;
                }
                left--;
            }
            if (!mayFollow(first, place, next)) {
                return;
            }
            int same = waysBySameStep(first, place, step, next);
            int both = same + waysByNextStep(first, place, step, next);
            if (left >= both) {
                left -= both;
                continue;
            }
            if (left >= same) {
                left -= same;
                step++;
            }
            place = next;
            addFound(place, step);
        }
    }

    private void addFound(int place, int step) {
        if (foundLength < MOST_KEPT) {
            foundPlaces[foundLength] = place;
            foundSteps[foundLength] = step;
            foundLength++;
        }
    }
}
