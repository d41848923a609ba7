/** The promises one by one, with the answers worked out by hand from the document. */
public final class EventPatternsPromises {
    private static final String ARGUMENT = "IllegalArgumentException";
    private static final String UNSUPPORTED = "UnsupportedOperationException";
    private static final String STATE = "IllegalStateException";
    private static final String INDEX = "IndexOutOfBoundsException";

    private static final int CLOSE = 0;
    private static final int LOOSE = 1;
    private static final int ANY = 255;

    private static int wrong = 0;

    private interface Call {
        int answer();
    }

    public static void main(String[] args) {
        terms();
        newObject();
        event();
        eventRefuses();
        clear();
        pattern();
        step();
        stepRefuses();
        count();
        tests();
        span();
        keptEvents();
        latest();
        length();
        match();
        matchRefuses();
        order();
        events();
        throwsChangeNothing();
        mostMatches();
        System.out.println(wrong == 0 ? "all answers are as due" : wrong + " answers are not as due");
        if (wrong != 0) {
            System.exit(1);
        }
    }

    private static void terms() {
        due("NONE", EventPatterns.NONE, -1);
    }

    private static void newObject() {
        EventPatterns x = new EventPatterns();
        due("new: events()", x.events(), 0);
        dueThrow("new: count()", STATE, x::count);
        dueThrow("new: latest()", STATE, x::latest);
        dueThrow("new: length(0)", STATE, () -> x.length(0));
        dueThrow("new: match(0, 0, 0)", STATE, () -> x.match(0, 0, 0));

        addEvents(x, "0:0=0 0:0=0 0:0=0 1:0=0");
        due("new: first step", x.step(ANY, 0, 0, false), 0);
        due("new: second step", x.step(ANY, 0, 0, false), 1);
        dueText("new: style 0 and span 0", matches(x), "0/0,1/1 1/0,2/1");
    }

    private static void event() {
        EventPatterns x = new EventPatterns();
        due("event: the first", x.event(0, 0, Integer.MIN_VALUE), 0);
        due("event: the second", x.event(0, 7, Integer.MAX_VALUE), 1);
        due("event: a later time", x.event(999999, 3, 0), 2);
        due("event: the highest time", x.event(1000000, 0, 0), 3);
        due("event: that time again", x.event(1000000, 0, 0), 4);
        due("event: five came", x.events(), 5);

        for (int kind = 0; kind <= 7; kind++) {
            EventPatterns y = new EventPatterns();
            y.event(0, kind, 0);
            for (int bit = 0; bit <= 7; bit++) {
                y.pattern(CLOSE, 0);
                y.step(1 << bit, 0, 0, false);
                due("event: kind " + kind + " with bit " + bit, y.count(), bit == kind ? 1 : 0);
            }
        }
    }

    private static void eventRefuses() {
        EventPatterns x = new EventPatterns();
        dueThrow("event: time -1", ARGUMENT, () -> x.event(-1, 0, 0));
        dueThrow("event: least time", ARGUMENT, () -> x.event(Integer.MIN_VALUE, 0, 0));
        dueThrow("event: time 1000001", ARGUMENT, () -> x.event(1000001, 0, 0));
        dueThrow("event: highest int as time", ARGUMENT, () -> x.event(Integer.MAX_VALUE, 0, 0));
        dueThrow("event: kind -1", ARGUMENT, () -> x.event(0, -1, 0));
        dueThrow("event: kind 8", ARGUMENT, () -> x.event(0, 8, 0));
        dueThrow("event: kind 32", ARGUMENT, () -> x.event(0, 32, 0));
        due("event: none came", x.events(), 0);

        x.event(10, 0, 0);
        dueThrow("event: a time below the one before", ARGUMENT, () -> x.event(9, 0, 0));
        due("event: the time of the one before", x.event(10, 0, 0), 1);

        for (int number = 2; number < 400; number++) {
            due("event: number", x.event(10 + number / 50, 0, 0), number);
        }
        dueThrow("event: the 401st", UNSUPPORTED, () -> x.event(20, 0, 0));
        dueThrow("event: the 401st, its time wrong", ARGUMENT, () -> x.event(9, 0, 0));
        dueThrow("event: the 401st, its kind wrong", ARGUMENT, () -> x.event(20, 8, 0));
        due("event: 400 came", x.events(), 400);
        x.clear();
        due("event: room again after clear()", x.event(0, 0, 0), 0);
    }

    private static void clear() {
        EventPatterns x = new EventPatterns();
        x.clear();
        due("clear: with nothing there", x.events(), 0);
        x.pattern(LOOSE, 5);
        x.step(ANY, 0, 0, true);
        addEvents(x, "100:0=0 101:1=0");
        due("clear: before it", x.count(), 3);
        x.clear();
        due("clear: events()", x.events(), 0);
        due("clear: count(), as the pattern stays", x.count(), 0);
        due("clear: latest()", x.latest(), 0);
        dueThrow("clear: length(0)", INDEX, () -> x.length(0));
        due("clear: numbers and times begin anew", x.event(0, 0, 0), 0);
        due("clear: one event, one match", x.count(), 1);
        due("clear: the next step's number", x.step(ANY, 0, 0, true), 1);
    }

    private static void pattern() {
        EventPatterns x = new EventPatterns();
        addEvents(x, "0:0=0 0:0=0 0:0=0");
        dueThrow("pattern: style -1", ARGUMENT, () -> begin(x, -1, 0));
        dueThrow("pattern: style 2", ARGUMENT, () -> begin(x, 2, 0));
        dueThrow("pattern: span -1", ARGUMENT, () -> begin(x, CLOSE, -1));
        dueThrow("pattern: span 1000001", ARGUMENT, () -> begin(x, LOOSE, 1000001));
        x.step(ANY, 0, 0, false);
        x.step(ANY, 0, 0, false);
        due("pattern: close", x.count(), 2);
        x.pattern(LOOSE, 0);
        dueThrow("pattern: without steps", STATE, x::count);
        dueThrow("pattern: latest() without steps", STATE, x::latest);
        dueThrow("pattern: length() without steps", STATE, () -> x.length(-1));
        dueThrow("pattern: match() without steps", STATE, () -> x.match(-1, -1, 9));
        due("pattern: the first step again", x.step(ANY, 0, 0, false), 0);
        due("pattern: one step alone", x.count(), 3);
        x.step(ANY, 0, 0, false);
        due("pattern: loose", x.count(), 3);
        due("pattern: the events stay", x.events(), 3);
        x.pattern(CLOSE, 1000000);
        x.step(ANY, 0, 0, false);
        due("pattern: the widest span", x.count(), 3);
    }

    private static void step() {
        EventPatterns x = new EventPatterns();
        x.pattern(CLOSE, 0);
        addEvents(x, "0:0=0 0:1=0 0:2=0 0:3=0 0:4=0");
        for (int number = 0; number < 5; number++) {
            due("step: its number", x.step(1 << number, 0, 0, false), number);
            due("step: one match each time", x.count(), 1);
            due("step: its length", x.length(0), number + 1);
        }
        x.pattern(CLOSE, 0);
        x.step(1 | 4, 0, 0, false);
        dueText("step: two kinds", matches(x), "0/0 2/0");
        x.pattern(CLOSE, 0);
        x.step(255, 0, 0, true);
        due("step: many, close", x.count(), 15);
    }

    private static void stepRefuses() {
        EventPatterns x = new EventPatterns();
        dueThrow("step: kinds 0", ARGUMENT, () -> x.step(0, 0, 0, false));
        dueThrow("step: kinds 256", ARGUMENT, () -> x.step(256, 0, 0, false));
        dueThrow("step: kinds 257", ARGUMENT, () -> x.step(257, 0, 0, false));
        dueThrow("step: kinds -1", ARGUMENT, () -> x.step(-1, 0, 0, false));
        dueThrow("step: test -1", ARGUMENT, () -> x.step(1, -1, 0, false));
        dueThrow("step: test 5", ARGUMENT, () -> x.step(1, 5, 0, false));
        dueThrow("step: none was added", STATE, x::count);
        due("step: kinds 1, test 0", x.step(1, 0, 0, false), 0);
        due("step: test 1", x.step(255, 1, 0, false), 1);
        due("step: test 2", x.step(255, 2, 0, true), 2);
        due("step: test 3", x.step(255, 3, 0, true), 3);
        due("step: kinds 255, test 4", x.step(255, 4, 0, true), 4);
        dueThrow("step: the sixth", UNSUPPORTED, () -> x.step(1, 0, 0, false));
        dueThrow("step: the sixth, its kinds wrong", ARGUMENT, () -> x.step(0, 0, 0, false));
        dueThrow("step: the sixth, its test wrong", ARGUMENT, () -> x.step(1, 5, 0, false));
        x.pattern(LOOSE, 0);
        due("step: room again in a new pattern", x.step(1, 0, 0, false), 0);
    }

    private static void count() {
        EventPatterns x = new EventPatterns();
        x.pattern(LOOSE, 100);
        x.step(1, 0, 0, false);
        due("count: no events", x.count(), 0);
        addEvents(x, "0:0=1 1:1=2 2:0=3 3:1=4");
        due("count: one step", x.count(), 2);
        x.step(2, 0, 0, false);
        dueText("count: loose", matches(x), "0/0,1/1 0/0,3/1 2/0,3/1");
        due("count: loose", x.count(), 3);
        x.pattern(CLOSE, 100);
        x.step(1, 0, 0, false);
        x.step(2, 0, 0, false);
        due("count: close", x.count(), 2);
        x.step(4, 0, 0, false);
        due("count: no kind for the last step", x.count(), 0);
        x.pattern(LOOSE, 100);
        x.step(ANY, 0, 0, true);
        x.step(ANY, 0, 0, true);
        due("count: the same events with other steps count anew", x.count(), 6 + 4 * 2 + 3);
        x.pattern(LOOSE, 100);
        x.step(ANY, 0, 0, false);
        x.step(ANY, 0, 0, true);
        due("count: one, then many", x.count(), 6 + 4 + 1);
        x.pattern(LOOSE, 100);
        x.step(ANY, 0, 0, true);
        x.step(ANY, 0, 0, false);
        due("count: many, then one", x.count(), 6 + 4 + 1);
    }

    private static void tests() {
        String row = "0:0=5 0:0=7 0:0=5 0:0=6";
        dueText("test 0, many", found(row, LOOSE, "255 0 0 many"),
                "0/0 0/0,1/0 0/0,1/0,2/0 0/0,1/0,2/0,3/0 0/0,1/0,3/0 0/0,2/0 0/0,2/0,3/0 0/0,3/0 "
                        + "1/0 1/0,2/0 1/0,2/0,3/0 1/0,3/0 2/0 2/0,3/0 3/0");
        dueText("test 1, many", found(row, LOOSE, "255 1 0 many"),
                "0/0 0/0,1/0 0/0,3/0 1/0 2/0 2/0,3/0 3/0");
        dueText("test 2, many", found(row, LOOSE, "255 2 0 many"),
                "0/0 1/0 1/0,2/0 1/0,3/0 2/0 3/0");
        dueText("test 3, many", found(row, LOOSE, "255 3 0 many"),
                "0/0 0/0,2/0 1/0 2/0 3/0");
        dueText("test 4, many", found(row, LOOSE, "255 4 6 many"), "1/0 1/0,3/0 3/0");
        dueText("test 4 of the first event", found(row, CLOSE, "255 4 7 one"), "1/0");
        dueText("test 1 against the event ahead, not the first", found(row, LOOSE,
                "255 0 0 one", "255 2 0 one", "255 1 0 one"), "1/0,2/1,3/2");
        dueText("test 3 against the first, not the event ahead", found(row, LOOSE,
                "255 0 0 one", "255 1 0 one", "255 3 0 one"), "0/0,1/1,2/2");
        String far = "0:0=" + Integer.MIN_VALUE + " 0:0=" + Integer.MAX_VALUE;
        dueText("test 1 over all ints", found(far, CLOSE, "255 0 0 one", "255 1 0 one"), "0/0,1/1");
        dueText("test 2 over all ints", found(far, CLOSE, "255 0 0 one", "255 2 0 one"), "");
        dueText("test 4 with the least n", found(far, CLOSE, "255 4 -2147483648 one"), "0/0 1/0");
        dueText("test 4 with the highest n", found(far, CLOSE, "255 4 2147483647 one"), "1/0");
        dueText("test 1 with a value alike", found("0:0=4 0:0=4", CLOSE, "255 0 0 one", "255 1 0 one"), "");
        dueText("test 2 with a value alike", found("0:0=4 0:0=4", CLOSE, "255 0 0 one", "255 2 0 one"), "");
    }

    private static void span() {
        EventPatterns x = new EventPatterns();
        addEvents(x, "0:0=0 10:0=0 20:0=0 1000000:0=0");
        dueText("span 9", foundWithin(x, LOOSE, 9), "");
        dueText("span 10", foundWithin(x, LOOSE, 10), "0/0,1/1 1/0,2/1");
        dueText("span 19", foundWithin(x, LOOSE, 19), "0/0,1/1 1/0,2/1");
        dueText("span 20", foundWithin(x, LOOSE, 20), "0/0,1/1 0/0,2/1 1/0,2/1");
        dueText("span 999999", foundWithin(x, LOOSE, 999999),
                "0/0,1/1 0/0,2/1 1/0,2/1 1/0,3/1 2/0,3/1");
        dueText("span 1000000", foundWithin(x, LOOSE, 1000000),
                "0/0,1/1 0/0,2/1 0/0,3/1 1/0,2/1 1/0,3/1 2/0,3/1");
        dueText("span 10, close", foundWithin(x, CLOSE, 10), "0/0,1/1 1/0,2/1");
        x.pattern(CLOSE, 10);
        x.step(ANY, 0, 0, true);
        dueText("the span is from the first event to the last", matches(x),
                "0/0 0/0,1/0 1/0 1/0,2/0 2/0 3/0");
    }

    private static void keptEvents() {
        EventPatterns x = new EventPatterns();
        x.pattern(LOOSE, 1000000);
        x.step(1, 0, 0, false);
        x.event(0, 0, 11);
        for (int number = 1; number < 16; number++) {
            x.event(number, 1, number);
        }
        due("kept: the first of sixteen", x.count(), 1);
        due("kept: its number", x.match(0, 0, 0), 0);
        x.event(16, 1, 16);
        due("kept: no longer the first of seventeen", x.count(), 0);
        due("kept: seventeen came", x.events(), 17);
        x.event(17, 0, 11);
        due("kept: the latest", x.match(0, 0, 0), 17);
        x.pattern(LOOSE, 1000000);
        x.step(ANY, 0, 0, false);
        due("kept: sixteen", x.count(), 16);
        for (int k = 0; k < 16; k++) {
            due("kept: the numbers go on", x.match(k, 0, 0), k + 2);
        }
        x.pattern(LOOSE, 1000000);
        x.step(ANY, 4, 15, false);
        dueText("kept: values go with their events", matches(x), "15/0 16/0");
        x.pattern(LOOSE, 1);
        x.step(2, 0, 0, false);
        x.step(1, 0, 0, false);
        dueText("kept: times and kinds go with their events", matches(x), "16/0,17/1");
    }

    private static void latest() {
        EventPatterns x = new EventPatterns();
        x.pattern(LOOSE, 100);
        x.step(1, 0, 0, true);
        due("latest: no events", x.latest(), 0);
        addEvents(x, "0:0=0 1:0=0 2:0=0");
        due("latest: all that end with event 2", x.latest(), 4);
        due("latest: of all", x.count(), 7);
        addEvents(x, "3:1=0");
        due("latest: none that end with event 3", x.latest(), 0);
        due("latest: of all still", x.count(), 7);
        x.pattern(CLOSE, 1);
        x.step(ANY, 0, 0, true);
        due("latest: close, in span", x.latest(), 2);
        x.pattern(LOOSE, 100);
        x.step(1, 0, 0, true);
        x.step(2, 0, 0, false);
        due("latest: it ends with the last step", x.latest(), 7);
        x.step(2, 0, 0, false);
        due("latest: one that has steps ahead does not end", x.latest(), 0);
    }

    private static void length() {
        EventPatterns x = new EventPatterns();
        x.pattern(LOOSE, 100);
        x.step(ANY, 0, 0, true);
        dueThrow("length: no match", INDEX, () -> x.length(0));
        addEvents(x, "0:0=0 1:0=0 2:0=0");
        int[] lengths = {1, 2, 3, 2, 1, 2, 1};
        for (int k = 0; k < lengths.length; k++) {
            due("length(" + k + ")", x.length(k), lengths[k]);
        }
        dueThrow("length(7)", INDEX, () -> x.length(7));
        dueThrow("length(-1)", INDEX, () -> x.length(-1));
        dueThrow("length(highest int)", INDEX, () -> x.length(Integer.MAX_VALUE));
        dueThrow("length(least int)", INDEX, () -> x.length(Integer.MIN_VALUE));
    }

    private static void match() {
        EventPatterns x = new EventPatterns();
        x.pattern(CLOSE, 100);
        x.step(1, 0, 0, true);
        x.step(2, 0, 0, false);
        addEvents(x, "0:2=0 1:0=0 2:0=0 3:1=0");
        due("match: number of the first", x.match(0, 0, 0), 1);
        due("match: number of the second", x.match(0, 1, 0), 2);
        due("match: number of the third", x.match(0, 2, 0), 3);
        due("match: step of the first", x.match(0, 0, 1), 0);
        due("match: step of the second", x.match(0, 1, 1), 0);
        due("match: step of the third", x.match(0, 2, 1), 1);
        due("match: number in the next match", x.match(1, 0, 0), 2);
        due("match: step in the next match", x.match(1, 1, 1), 1);
    }

    private static void matchRefuses() {
        EventPatterns x = new EventPatterns();
        dueThrow("match: no steps goes first", STATE, () -> x.match(-1, -1, -1));
        x.step(ANY, 0, 0, false);
        x.event(0, 0, 0);
        dueThrow("match: k 1", INDEX, () -> x.match(1, 0, 0));
        dueThrow("match: k -1", INDEX, () -> x.match(-1, 0, 0));
        dueThrow("match: i 1", INDEX, () -> x.match(0, 1, 0));
        dueThrow("match: i -1", INDEX, () -> x.match(0, -1, 0));
        dueThrow("match: i highest int", INDEX, () -> x.match(0, Integer.MAX_VALUE, 1));
        dueThrow("match: i least int", INDEX, () -> x.match(0, Integer.MIN_VALUE, 1));
        dueThrow("match: what 2", ARGUMENT, () -> x.match(0, 0, 2));
        dueThrow("match: what -1", ARGUMENT, () -> x.match(0, 0, -1));
        dueThrow("match: k goes ahead of what", INDEX, () -> x.match(1, 0, 2));
        dueThrow("match: i goes ahead of what", INDEX, () -> x.match(0, 1, 2));
        due("match: what 0", x.match(0, 0, 0), 0);
        due("match: what 1", x.match(0, 0, 1), 0);
    }

    private static void order() {
        dueText("order: numbers, then steps, and an end ahead of what goes on",
                found("0:0=0 0:0=0 0:0=0", LOOSE, "255 0 0 many", "255 0 0 many"),
                "0/0,1/0,2/1 0/0,1/1 0/0,1/1,2/1 0/0,2/1 1/0,2/1");
        dueText("order: close",
                found("0:0=0 0:0=0 0:0=0 0:0=0", CLOSE, "255 0 0 many", "255 0 0 many"),
                "0/0,1/0,2/0,3/1 0/0,1/0,2/1 0/0,1/0,2/1,3/1 0/0,1/1 0/0,1/1,2/1 0/0,1/1,2/1,3/1 "
                        + "1/0,2/0,3/1 1/0,2/1 1/0,2/1,3/1 2/0,3/1");
    }

    private static void events() {
        EventPatterns x = new EventPatterns();
        for (int number = 0; number < 40; number++) {
            due("events: so far", x.events(), number);
            x.event(number, number % 8, number);
        }
        due("events: those no longer kept count too", x.events(), 40);
        x.clear();
        due("events: after clear()", x.events(), 0);
    }

    private static void throwsChangeNothing() {
        EventPatterns x = new EventPatterns();
        x.pattern(LOOSE, 3);
        x.step(ANY, 1, 0, true);
        x.step(ANY, 2, 0, false);
        addEvents(x, "4:0=1 5:1=2 6:2=1 7:3=3 8:4=2");
        String before = matches(x);
        dueThrow("nothing changes: event, time", ARGUMENT, () -> x.event(7, 0, 0));
        dueThrow("nothing changes: event, kind", ARGUMENT, () -> x.event(9, 8, 0));
        dueThrow("nothing changes: pattern, style", ARGUMENT, () -> begin(x, 2, 0));
        dueThrow("nothing changes: pattern, span", ARGUMENT, () -> begin(x, CLOSE, -1));
        dueThrow("nothing changes: step, kinds", ARGUMENT, () -> x.step(0, 0, 0, false));
        dueThrow("nothing changes: step, test", ARGUMENT, () -> x.step(1, 5, 0, false));
        dueThrow("nothing changes: length", INDEX, () -> x.length(99999));
        dueThrow("nothing changes: match, i", INDEX, () -> x.match(1, 9, 0));
        dueThrow("nothing changes: match, what", ARGUMENT, () -> x.match(1, 0, 2));
        dueText("nothing changes: the matches", matches(x), before);
        due("nothing changes: events()", x.events(), 5);
        due("nothing changes: the next event", x.event(8, 0, 0), 5);
        due("nothing changes: the next step", x.step(ANY, 0, 0, false), 2);

        x.step(ANY, 0, 0, false);
        x.step(ANY, 0, 0, false);
        String full = matches(x);
        dueThrow("nothing changes: a sixth step", UNSUPPORTED, () -> x.step(1, 4, 9, true));
        dueText("nothing changes: after a sixth step", matches(x), full);
        for (int number = 6; number < 400; number++) {
            x.event(8, number % 8, number % 3);
        }
        x.pattern(CLOSE, 3);
        x.step(ANY, 1, 0, true);
        String last = matches(x);
        dueThrow("nothing changes: event 401", UNSUPPORTED, () -> x.event(9, 1, 7));
        dueText("nothing changes: after event 401", matches(x), last);
    }

    private static void mostMatches() {
        EventPatterns x = new EventPatterns();
        x.pattern(LOOSE, 1000000);
        for (int number = 0; number < 20; number++) {
            x.event(number, number % 8, number);
        }
        for (int step = 0; step < 5; step++) {
            x.step(ANY, 0, 0, true);
        }
        int most = 0;
        for (int size = 5; size <= 16; size++) {
            most += choose(16, size) * choose(size - 1, 4);
        }
        due("most: count()", x.count(), most);
        int mostLatest = 0;
        for (int size = 5; size <= 16; size++) {
            mostLatest += choose(15, size - 1) * choose(size - 1, 4);
        }
        due("most: latest()", x.latest(), mostLatest);
        due("most: the first match's length", x.length(0), 16);
        due("most: its event 11", x.match(0, 11, 0), 15);
        due("most: the step of its event 11", x.match(0, 11, 1), 0);
        due("most: the step of its event 15", x.match(0, 15, 1), 4);
        due("most: the last match's length", x.length(most - 1), 5);
        due("most: its first event", x.match(most - 1, 0, 0), 15);
        due("most: its last event", x.match(most - 1, 4, 0), 19);
        int past = most;
        dueThrow("most: one past the last", INDEX, () -> x.length(past));
    }

    private static int choose(int n, int k) {
        int answer = 1;
        for (int i = 1; i <= k; i++) {
            answer = answer * (n - k + i) / i;
        }
        return answer;
    }

    /** Events as time:kind=value, with spaces between them. */
    private static void addEvents(EventPatterns x, String row) {
        for (String text : row.split(" ")) {
            String[] parts = text.split("[:=]");
            x.event(Integer.parseInt(parts[0]), Integer.parseInt(parts[1]), Integer.parseInt(parts[2]));
        }
    }

    private static String found(String row, int style, String... steps) {
        EventPatterns x = new EventPatterns();
        addEvents(x, row);
        x.pattern(style, 1000000);
        for (String step : steps) {
            String[] parts = step.split(" ");
            x.step(Integer.parseInt(parts[0]), Integer.parseInt(parts[1]), Integer.parseInt(parts[2]),
                    parts[3].equals("many"));
        }
        return matches(x);
    }

    private static String foundWithin(EventPatterns x, int style, int span) {
        x.pattern(style, span);
        x.step(ANY, 0, 0, false);
        x.step(ANY, 0, 0, false);
        return matches(x);
    }

    /** All matches in their order: number/step of each event, joined by commas. */
    private static String matches(EventPatterns x) {
        StringBuilder text = new StringBuilder();
        int count = x.count();
        for (int k = 0; k < count; k++) {
            text.append(k == 0 ? "" : " ");
            int length = x.length(k);
            for (int i = 0; i < length; i++) {
                text.append(i == 0 ? "" : ",").append(x.match(k, i, 0)).append('/').append(x.match(k, i, 1));
            }
        }
        return text.toString();
    }

    private static int begin(EventPatterns x, int style, int span) {
        x.pattern(style, span);
        return 0;
    }

    private static void due(String call, int got, int want) {
        dueText(call, String.valueOf(got), String.valueOf(want));
    }

    private static void dueThrow(String call, String want, Call made) {
        String got;
        try {
            got = String.valueOf(made.answer());
        } catch (RuntimeException thrown) {
            got = thrown.getClass().getSimpleName();
        }
        dueText(call, got, want);
    }

    private static void dueText(String call, String got, String want) {
        if (!got.equals(want)) {
            wrong++;
            System.out.println(call + " answered " + got + ", due is " + want);
        }
    }
}
