/** The promises one by one, with the answers worked out by hand from the document. */
public final class EventPatternsPromises {
    private static final String ARGUMENT = "IllegalArgumentException";
    private static final String UNSUPPORTED = "UnsupportedOperationException";
    private static final String STATE = "IllegalStateException";
    private static final String INDEX = "IndexOutOfBoundsException";

    private static final int CLOSE = 0;
    private static final int LOOSE = 1;
    private static final int ANY = 255;

    public static void main(String[] args) {
        terms();
        newObject();
        event();
        eventRefuses();
        clear();
        pattern();
        step();
        stepRefuses();
        count();
        tests();
        span();
        keptEvents();
        latest();
        length();
        match();
        matchRefuses();
        order();
        events();
        throwsChangeNothing();
        mostMatches();
        Due.end();
    }

    private static void terms() {
        Due.number("NONE", EventPatterns.NONE, -1);
    }

    private static void newObject() {
        EventPatterns x = new EventPatterns();
        Due.number("new: events()", x.events(), 0);
        Due.thrown("new: count()", STATE, x::count);
        Due.thrown("new: latest()", STATE, x::latest);
        Due.thrown("new: length(0)", STATE, () -> x.length(0));
        Due.thrown("new: match(0, 0, 0)", STATE, () -> x.match(0, 0, 0));

        addEvents(x, "0:0=0 0:0=0 0:0=0 1:0=0");
        Due.number("new: first step", x.step(ANY, 0, 0, false), 0);
        Due.number("new: second step", x.step(ANY, 0, 0, false), 1);
        Due.text("new: style 0 and span 0", matches(x), "0/0,1/1 1/0,2/1");
    }

    private static void event() {
        EventPatterns x = new EventPatterns();
        Due.number("event: the first", x.event(0, 0, Integer.MIN_VALUE), 0);
        Due.number("event: the second", x.event(0, 7, Integer.MAX_VALUE), 1);
        Due.number("event: a later time", x.event(999999, 3, 0), 2);
        Due.number("event: the highest time", x.event(1000000, 0, 0), 3);
        Due.number("event: that time again", x.event(1000000, 0, 0), 4);
        Due.number("event: five came", x.events(), 5);

        for (int kind = 0; kind <= 7; kind++) {
            EventPatterns y = new EventPatterns();
            y.event(0, kind, 0);
            for (int bit = 0; bit <= 7; bit++) {
                y.pattern(CLOSE, 0);
                y.step(1 << bit, 0, 0, false);
                Due.number("event: kind " + kind + " with bit " + bit, y.count(), bit == kind ? 1 : 0);
            }
        }
    }

    private static void eventRefuses() {
        EventPatterns x = new EventPatterns();
        Due.thrown("event: time -1", ARGUMENT, () -> x.event(-1, 0, 0));
        Due.thrown("event: least time", ARGUMENT, () -> x.event(Integer.MIN_VALUE, 0, 0));
        Due.thrown("event: time 1000001", ARGUMENT, () -> x.event(1000001, 0, 0));
        Due.thrown("event: highest int as time", ARGUMENT, () -> x.event(Integer.MAX_VALUE, 0, 0));
        Due.thrown("event: kind -1", ARGUMENT, () -> x.event(0, -1, 0));
        Due.thrown("event: kind 8", ARGUMENT, () -> x.event(0, 8, 0));
        Due.thrown("event: kind 32", ARGUMENT, () -> x.event(0, 32, 0));
        Due.number("event: none came", x.events(), 0);

        x.event(10, 0, 0);
        Due.thrown("event: a time below the one before", ARGUMENT, () -> x.event(9, 0, 0));
        Due.number("event: the time of the one before", x.event(10, 0, 0), 1);

        for (int number = 2; number < 400; number++) {
            Due.number("event: number", x.event(10 + number / 50, 0, 0), number);
        }
        Due.thrown("event: the 401st", UNSUPPORTED, () -> x.event(20, 0, 0));
        Due.thrown("event: the 401st, its time wrong", ARGUMENT, () -> x.event(9, 0, 0));
        Due.thrown("event: the 401st, its kind wrong", ARGUMENT, () -> x.event(20, 8, 0));
        Due.number("event: 400 came", x.events(), 400);
        x.clear();
        Due.number("event: room again after clear()", x.event(0, 0, 0), 0);
    }

    private static void clear() {
        EventPatterns x = new EventPatterns();
        x.clear();
        Due.number("clear: with nothing there", x.events(), 0);
        x.pattern(LOOSE, 5);
        x.step(ANY, 0, 0, true);
        addEvents(x, "100:0=0 101:1=0");
        Due.number("clear: before it", x.count(), 3);
        x.clear();
        Due.number("clear: events()", x.events(), 0);
        Due.number("clear: count(), as the pattern stays", x.count(), 0);
        Due.number("clear: latest()", x.latest(), 0);
        Due.thrown("clear: length(0)", INDEX, () -> x.length(0));
        Due.number("clear: numbers and times begin anew", x.event(0, 0, 0), 0);
        Due.number("clear: one event, one match", x.count(), 1);
        Due.number("clear: the next step's number", x.step(ANY, 0, 0, true), 1);
    }

    private static void pattern() {
        EventPatterns x = new EventPatterns();
        addEvents(x, "0:0=0 0:0=0 0:0=0");
        Due.thrown("pattern: style -1", ARGUMENT, () -> begin(x, -1, 0));
        Due.thrown("pattern: style 2", ARGUMENT, () -> begin(x, 2, 0));
        Due.thrown("pattern: span -1", ARGUMENT, () -> begin(x, CLOSE, -1));
        Due.thrown("pattern: span 1000001", ARGUMENT, () -> begin(x, LOOSE, 1000001));
        x.step(ANY, 0, 0, false);
        x.step(ANY, 0, 0, false);
        Due.number("pattern: close", x.count(), 2);
        x.pattern(LOOSE, 0);
        Due.thrown("pattern: without steps", STATE, x::count);
        Due.thrown("pattern: latest() without steps", STATE, x::latest);
        Due.thrown("pattern: length() without steps", STATE, () -> x.length(-1));
        Due.thrown("pattern: match() without steps", STATE, () -> x.match(-1, -1, 9));
        Due.number("pattern: the first step again", x.step(ANY, 0, 0, false), 0);
        Due.number("pattern: one step alone", x.count(), 3);
        x.step(ANY, 0, 0, false);
        Due.number("pattern: loose", x.count(), 3);
        Due.number("pattern: the events stay", x.events(), 3);
        x.pattern(CLOSE, 1000000);
        x.step(ANY, 0, 0, false);
        Due.number("pattern: the widest span", x.count(), 3);
    }

    private static void step() {
        EventPatterns x = new EventPatterns();
        x.pattern(CLOSE, 0);
        addEvents(x, "0:0=0 0:1=0 0:2=0 0:3=0 0:4=0");
        for (int number = 0; number < 5; number++) {
            Due.number("step: its number", x.step(1 << number, 0, 0, false), number);
            Due.number("step: one match each time", x.count(), 1);
            Due.number("step: its length", x.length(0), number + 1);
        }
        x.pattern(CLOSE, 0);
        x.step(1 | 4, 0, 0, false);
        Due.text("step: two kinds", matches(x), "0/0 2/0");
        x.pattern(CLOSE, 0);
        x.step(255, 0, 0, true);
        Due.number("step: many, close", x.count(), 15);
    }

    private static void stepRefuses() {
        EventPatterns x = new EventPatterns();
        Due.thrown("step: kinds 0", ARGUMENT, () -> x.step(0, 0, 0, false));
        Due.thrown("step: kinds 256", ARGUMENT, () -> x.step(256, 0, 0, false));
        Due.thrown("step: kinds 257", ARGUMENT, () -> x.step(257, 0, 0, false));
        Due.thrown("step: kinds -1", ARGUMENT, () -> x.step(-1, 0, 0, false));
        Due.thrown("step: test -1", ARGUMENT, () -> x.step(1, -1, 0, false));
        Due.thrown("step: test 5", ARGUMENT, () -> x.step(1, 5, 0, false));
        Due.thrown("step: none was added", STATE, x::count);
        Due.number("step: kinds 1, test 0", x.step(1, 0, 0, false), 0);
        Due.number("step: test 1", x.step(255, 1, 0, false), 1);
        Due.number("step: test 2", x.step(255, 2, 0, true), 2);
        Due.number("step: test 3", x.step(255, 3, 0, true), 3);
        Due.number("step: kinds 255, test 4", x.step(255, 4, 0, true), 4);
        Due.thrown("step: the sixth", UNSUPPORTED, () -> x.step(1, 0, 0, false));
        Due.thrown("step: the sixth, its kinds wrong", ARGUMENT, () -> x.step(0, 0, 0, false));
        Due.thrown("step: the sixth, its test wrong", ARGUMENT, () -> x.step(1, 5, 0, false));
        x.pattern(LOOSE, 0);
        Due.number("step: room again in a new pattern", x.step(1, 0, 0, false), 0);
    }

    private static void count() {
        EventPatterns x = new EventPatterns();
        x.pattern(LOOSE, 100);
        x.step(1, 0, 0, false);
        Due.number("count: no events", x.count(), 0);
        addEvents(x, "0:0=1 1:1=2 2:0=3 3:1=4");
        Due.number("count: one step", x.count(), 2);
        x.step(2, 0, 0, false);
        Due.text("count: loose", matches(x), "0/0,1/1 0/0,3/1 2/0,3/1");
        Due.number("count: loose", x.count(), 3);
        x.pattern(CLOSE, 100);
        x.step(1, 0, 0, false);
        x.step(2, 0, 0, false);
        Due.number("count: close", x.count(), 2);
        x.step(4, 0, 0, false);
        Due.number("count: no kind for the last step", x.count(), 0);
        x.pattern(LOOSE, 100);
        x.step(ANY, 0, 0, true);
        x.step(ANY, 0, 0, true);
        Due.number("count: the same events with other steps count anew", x.count(), 6 + 4 * 2 + 3);
        x.pattern(LOOSE, 100);
        x.step(ANY, 0, 0, false);
        x.step(ANY, 0, 0, true);
        Due.number("count: one, then many", x.count(), 6 + 4 + 1);
        x.pattern(LOOSE, 100);
        x.step(ANY, 0, 0, true);
        x.step(ANY, 0, 0, false);
        Due.number("count: many, then one", x.count(), 6 + 4 + 1);
    }

    private static void tests() {
        String row = "0:0=5 0:0=7 0:0=5 0:0=6";
        Due.text("test 0, many", found(row, LOOSE, "255 0 0 many"),
                "0/0 0/0,1/0 0/0,1/0,2/0 0/0,1/0,2/0,3/0 0/0,1/0,3/0 0/0,2/0 0/0,2/0,3/0 0/0,3/0 "
                        + "1/0 1/0,2/0 1/0,2/0,3/0 1/0,3/0 2/0 2/0,3/0 3/0");
        Due.text("test 1, many", found(row, LOOSE, "255 1 0 many"),
                "0/0 0/0,1/0 0/0,3/0 1/0 2/0 2/0,3/0 3/0");
        Due.text("test 2, many", found(row, LOOSE, "255 2 0 many"),
                "0/0 1/0 1/0,2/0 1/0,3/0 2/0 3/0");
        Due.text("test 3, many", found(row, LOOSE, "255 3 0 many"),
                "0/0 0/0,2/0 1/0 2/0 3/0");
        Due.text("test 4, many", found(row, LOOSE, "255 4 6 many"), "1/0 1/0,3/0 3/0");
        Due.text("test 4 of the first event", found(row, CLOSE, "255 4 7 one"), "1/0");
        Due.text("test 1 against the event ahead, not the first", found(row, LOOSE,
                "255 0 0 one", "255 2 0 one", "255 1 0 one"), "1/0,2/1,3/2");
        Due.text("test 3 against the first, not the event ahead", found(row, LOOSE,
                "255 0 0 one", "255 1 0 one", "255 3 0 one"), "0/0,1/1,2/2");
        String far = "0:0=" + Integer.MIN_VALUE + " 0:0=" + Integer.MAX_VALUE;
        Due.text("test 1 over all ints", found(far, CLOSE, "255 0 0 one", "255 1 0 one"), "0/0,1/1");
        Due.text("test 2 over all ints", found(far, CLOSE, "255 0 0 one", "255 2 0 one"), "");
        Due.text("test 4 with the least n", found(far, CLOSE, "255 4 -2147483648 one"), "0/0 1/0");
        Due.text("test 4 with the highest n", found(far, CLOSE, "255 4 2147483647 one"), "1/0");
        Due.text("test 1 with a value alike", found("0:0=4 0:0=4", CLOSE, "255 0 0 one", "255 1 0 one"), "");
        Due.text("test 2 with a value alike", found("0:0=4 0:0=4", CLOSE, "255 0 0 one", "255 2 0 one"), "");
    }

    private static void span() {
        EventPatterns x = new EventPatterns();
        addEvents(x, "0:0=0 10:0=0 20:0=0 1000000:0=0");
        Due.text("span 9", foundWithin(x, LOOSE, 9), "");
        Due.text("span 10", foundWithin(x, LOOSE, 10), "0/0,1/1 1/0,2/1");
        Due.text("span 19", foundWithin(x, LOOSE, 19), "0/0,1/1 1/0,2/1");
        Due.text("span 20", foundWithin(x, LOOSE, 20), "0/0,1/1 0/0,2/1 1/0,2/1");
        Due.text("span 999999", foundWithin(x, LOOSE, 999999),
                "0/0,1/1 0/0,2/1 1/0,2/1 1/0,3/1 2/0,3/1");
        Due.text("span 1000000", foundWithin(x, LOOSE, 1000000),
                "0/0,1/1 0/0,2/1 0/0,3/1 1/0,2/1 1/0,3/1 2/0,3/1");
        Due.text("span 10, close", foundWithin(x, CLOSE, 10), "0/0,1/1 1/0,2/1");
        x.pattern(CLOSE, 10);
        x.step(ANY, 0, 0, true);
        Due.text("the span is from the first event to the last", matches(x),
                "0/0 0/0,1/0 1/0 1/0,2/0 2/0 3/0");
    }

    private static void keptEvents() {
        EventPatterns x = new EventPatterns();
        x.pattern(LOOSE, 1000000);
        x.step(1, 0, 0, false);
        x.event(0, 0, 11);
        for (int number = 1; number < 16; number++) {
            x.event(number, 1, number);
        }
        Due.number("kept: the first of sixteen", x.count(), 1);
        Due.number("kept: its number", x.match(0, 0, 0), 0);
        x.event(16, 1, 16);
        Due.number("kept: no longer the first of seventeen", x.count(), 0);
        Due.number("kept: seventeen came", x.events(), 17);
        x.event(17, 0, 11);
        Due.number("kept: the latest", x.match(0, 0, 0), 17);
        x.pattern(LOOSE, 1000000);
        x.step(ANY, 0, 0, false);
        Due.number("kept: sixteen", x.count(), 16);
        for (int k = 0; k < 16; k++) {
            Due.number("kept: the numbers go on", x.match(k, 0, 0), k + 2);
        }
        x.pattern(LOOSE, 1000000);
        x.step(ANY, 4, 15, false);
        Due.text("kept: values go with their events", matches(x), "15/0 16/0");
        x.pattern(LOOSE, 1);
        x.step(2, 0, 0, false);
        x.step(1, 0, 0, false);
        Due.text("kept: times and kinds go with their events", matches(x), "16/0,17/1");
    }

    private static void latest() {
        EventPatterns x = new EventPatterns();
        x.pattern(LOOSE, 100);
        x.step(1, 0, 0, true);
        Due.number("latest: no events", x.latest(), 0);
        addEvents(x, "0:0=0 1:0=0 2:0=0");
        Due.number("latest: all that end with event 2", x.latest(), 4);
        Due.number("latest: of all", x.count(), 7);
        addEvents(x, "3:1=0");
        Due.number("latest: none that end with event 3", x.latest(), 0);
        Due.number("latest: of all still", x.count(), 7);
        x.pattern(CLOSE, 1);
        x.step(ANY, 0, 0, true);
        Due.number("latest: close, in span", x.latest(), 2);
        x.pattern(LOOSE, 100);
        x.step(1, 0, 0, true);
        x.step(2, 0, 0, false);
        Due.number("latest: it ends with the last step", x.latest(), 7);
        x.step(2, 0, 0, false);
        Due.number("latest: one that has steps ahead does not end", x.latest(), 0);
    }

    private static void length() {
        EventPatterns x = new EventPatterns();
        x.pattern(LOOSE, 100);
        x.step(ANY, 0, 0, true);
        Due.thrown("length: no match", INDEX, () -> x.length(0));
        addEvents(x, "0:0=0 1:0=0 2:0=0");
        int[] lengths = {1, 2, 3, 2, 1, 2, 1};
        for (int k = 0; k < lengths.length; k++) {
            Due.number("length(" + k + ")", x.length(k), lengths[k]);
        }
        Due.thrown("length(7)", INDEX, () -> x.length(7));
        Due.thrown("length(-1)", INDEX, () -> x.length(-1));
        Due.thrown("length(highest int)", INDEX, () -> x.length(Integer.MAX_VALUE));
        Due.thrown("length(least int)", INDEX, () -> x.length(Integer.MIN_VALUE));
    }

    private static void match() {
        EventPatterns x = new EventPatterns();
        x.pattern(CLOSE, 100);
        x.step(1, 0, 0, true);
        x.step(2, 0, 0, false);
        addEvents(x, "0:2=0 1:0=0 2:0=0 3:1=0");
        Due.number("match: number of the first", x.match(0, 0, 0), 1);
        Due.number("match: number of the second", x.match(0, 1, 0), 2);
        Due.number("match: number of the third", x.match(0, 2, 0), 3);
        Due.number("match: step of the first", x.match(0, 0, 1), 0);
        Due.number("match: step of the second", x.match(0, 1, 1), 0);
        Due.number("match: step of the third", x.match(0, 2, 1), 1);
        Due.number("match: number in the next match", x.match(1, 0, 0), 2);
        Due.number("match: step in the next match", x.match(1, 1, 1), 1);
    }

    private static void matchRefuses() {
        EventPatterns x = new EventPatterns();
        Due.thrown("match: no steps goes first", STATE, () -> x.match(-1, -1, -1));
        x.step(ANY, 0, 0, false);
        x.event(0, 0, 0);
        Due.thrown("match: k 1", INDEX, () -> x.match(1, 0, 0));
        Due.thrown("match: k -1", INDEX, () -> x.match(-1, 0, 0));
        Due.thrown("match: i 1", INDEX, () -> x.match(0, 1, 0));
        Due.thrown("match: i -1", INDEX, () -> x.match(0, -1, 0));
        Due.thrown("match: i highest int", INDEX, () -> x.match(0, Integer.MAX_VALUE, 1));
        Due.thrown("match: i least int", INDEX, () -> x.match(0, Integer.MIN_VALUE, 1));
        Due.thrown("match: what 2", ARGUMENT, () -> x.match(0, 0, 2));
        Due.thrown("match: what -1", ARGUMENT, () -> x.match(0, 0, -1));
        Due.thrown("match: k goes ahead of what", INDEX, () -> x.match(1, 0, 2));
        Due.thrown("match: i goes ahead of what", INDEX, () -> x.match(0, 1, 2));
        Due.number("match: what 0", x.match(0, 0, 0), 0);
        Due.number("match: what 1", x.match(0, 0, 1), 0);
    }

    private static void order() {
        Due.text("order: numbers, then steps, and an end ahead of what goes on",
                found("0:0=0 0:0=0 0:0=0", LOOSE, "255 0 0 many", "255 0 0 many"),
                "0/0,1/0,2/1 0/0,1/1 0/0,1/1,2/1 0/0,2/1 1/0,2/1");
        Due.text("order: close",
                found("0:0=0 0:0=0 0:0=0 0:0=0", CLOSE, "255 0 0 many", "255 0 0 many"),
                "0/0,1/0,2/0,3/1 0/0,1/0,2/1 0/0,1/0,2/1,3/1 0/0,1/1 0/0,1/1,2/1 0/0,1/1,2/1,3/1 "
                        + "1/0,2/0,3/1 1/0,2/1 1/0,2/1,3/1 2/0,3/1");
    }

    private static void events() {
        EventPatterns x = new EventPatterns();
        for (int number = 0; number < 40; number++) {
            Due.number("events: so far", x.events(), number);
            x.event(number, number % 8, number);
        }
        Due.number("events: those no longer kept count too", x.events(), 40);
        x.clear();
        Due.number("events: after clear()", x.events(), 0);
    }

    private static void throwsChangeNothing() {
        EventPatterns x = new EventPatterns();
        x.pattern(LOOSE, 3);
        x.step(ANY, 1, 0, true);
        x.step(ANY, 2, 0, false);
        addEvents(x, "4:0=1 5:1=2 6:2=1 7:3=3 8:4=2");
        String before = matches(x);
        Due.thrown("nothing changes: event, time", ARGUMENT, () -> x.event(7, 0, 0));
        Due.thrown("nothing changes: event, kind", ARGUMENT, () -> x.event(9, 8, 0));
        Due.thrown("nothing changes: pattern, style", ARGUMENT, () -> begin(x, 2, 0));
        Due.thrown("nothing changes: pattern, span", ARGUMENT, () -> begin(x, CLOSE, -1));
        Due.thrown("nothing changes: step, kinds", ARGUMENT, () -> x.step(0, 0, 0, false));
        Due.thrown("nothing changes: step, test", ARGUMENT, () -> x.step(1, 5, 0, false));
        Due.thrown("nothing changes: length", INDEX, () -> x.length(99999));
        Due.thrown("nothing changes: match, i", INDEX, () -> x.match(1, 9, 0));
        Due.thrown("nothing changes: match, what", ARGUMENT, () -> x.match(1, 0, 2));
        Due.text("nothing changes: the matches", matches(x), before);
        Due.number("nothing changes: events()", x.events(), 5);
        Due.number("nothing changes: the next event", x.event(8, 0, 0), 5);
        Due.number("nothing changes: the next step", x.step(ANY, 0, 0, false), 2);
    }

    private static void mostMatches() {
        EventPatterns x = new EventPatterns();
        x.pattern(LOOSE, 1000000);
        for (int number = 0; number < 20; number++) {
            x.event(number, number % 8, number);
        }
        for (int step = 0; step < 5; step++) {
            x.step(ANY, 0, 0, true);
        }
        int most = 0;
        for (int size = 5; size <= 16; size++) {
            most += choose(16, size) * choose(size - 1, 4);
        }
        Due.number("most: count()", x.count(), most);
        int mostLatest = 0;
        for (int size = 5; size <= 16; size++) {
            mostLatest += choose(15, size - 1) * choose(size - 1, 4);
        }
        Due.number("most: latest()", x.latest(), mostLatest);
        Due.number("most: the first match's length", x.length(0), 16);
        Due.number("most: its event 11", x.match(0, 11, 0), 15);
        Due.number("most: the step of its event 11", x.match(0, 11, 1), 0);
        Due.number("most: the step of its event 15", x.match(0, 15, 1), 4);
        Due.number("most: the last match's length", x.length(most - 1), 5);
        Due.number("most: its first event", x.match(most - 1, 0, 0), 15);
        Due.number("most: its last event", x.match(most - 1, 4, 0), 19);
        int past = most;
        Due.thrown("most: one past the last", INDEX, () -> x.length(past));
    }

    private static int choose(int n, int k) {
        int answer = 1;
        for (int i = 1; i <= k; i++) {
            answer = answer * (n - k + i) / i;
        }
        return answer;
    }

    /** Events as time:kind=value, with spaces between them. */
    private static void addEvents(EventPatterns x, String row) {
        for (String text : row.split(" ")) {
            String[] parts = text.split("[:=]");
            x.event(Integer.parseInt(parts[0]), Integer.parseInt(parts[1]), Integer.parseInt(parts[2]));
        }
    }

    private static String found(String row, int style, String... steps) {
        EventPatterns x = new EventPatterns();
        addEvents(x, row);
        x.pattern(style, 1000000);
        for (String step : steps) {
            String[] parts = step.split(" ");
            x.step(Integer.parseInt(parts[0]), Integer.parseInt(parts[1]), Integer.parseInt(parts[2]),
                    parts[3].equals("many"));
        }
        return matches(x);
    }

    private static String foundWithin(EventPatterns x, int style, int span) {
        x.pattern(style, span);
        x.step(ANY, 0, 0, false);
        x.step(ANY, 0, 0, false);
        return matches(x);
    }

    private static String matches(EventPatterns x) {
        return new Matches(x).text();
    }

    private static int begin(EventPatterns x, int style, int span) {
        x.pattern(style, span);
        return 0;
    }
}
