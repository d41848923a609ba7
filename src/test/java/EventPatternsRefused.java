import java.util.ArrayList;
import java.util.List;

/**
 * "A call that throws changes nothing": in each state, each call that throws there is made on one of
 * two objects that were made alike; from then on both must answer alike.
 */
public final class EventPatternsRefused {
    private static final String[] EDGES = {"MIN", "-1", "0", "1", "2", "5", "8", "256", "1000001", "MAX"};

    /** What is asked afterwards: the state as it stands, and what calls that change it make of it. */
    private static final String[] AFTERWARDS = {
        "events()", "count()", "latest()", "length(0)", "length(1)", "length(2)", "match(0, 0, 0)",
        "match(1, 0, 0)", "match(1, 1, 0)", "match(1, 1, 1)", "match(2, 2, 1)",
        "event(3, 1, 5)", "event(1000, 0, 6)", "event(1000, 1, 7)", "events()", "count()", "latest()",
        "length(3)", "match(3, 1, 0)", "match(3, 1, 1)",
        "step(3, 0, 0, true)", "count()", "latest()", "length(4)", "match(4, 1, 0)", "match(4, 1, 1)",
        "clear()", "events()", "count()", "event(2, 0, 1)", "event(3, 1, 2)", "event(3, 1, 3)", "count()",
        "pattern(1, 5)", "step(255, 1, 0, true)", "count()", "latest()", "match(2, 2, 0)",
    };

    public static void main(String[] args) {
        String[] steps = {"pattern(1, 1000)", "step(7, 1, 0, true)", "step(255, 2, 0, true)"};
        String[] fiveSteps = {"pattern(1, 1000)", "step(255, 0, 0, true)", "step(255, 4, 2, false)",
            "step(255, 1, 0, true)", "step(255, 2, 0, false)", "step(255, 3, 0, true)"};
        state("nothing", 0);
        state("steps", 0, steps);
        state("five steps", 0, fiveSteps);
        state("an event", 1);
        state("an event and steps", 1, steps);
        state("some events and steps", 7, steps);
        state("sixteen events", 16, steps);
        state("seventeen events and five steps", 17, fiveSteps);
        state("399 events", 399, steps);
        state("400 events", 400, steps);
        state("400 events and five steps", 400, fiveSteps);
        Due.end();
    }

    private static void state(String name, int events, String... steps) {
        int refused = 0;
        for (String call : calls(events)) {
            Run touched = made(name, events, steps);
            if (touched.answer(call).startsWith("throws.")) {
                refused++;
                compare(name + ", then " + call, touched, made(name, events, steps));
            }
        }
        Due.number(name + ": at least 100 calls are refused", Math.min(refused, 100), 100);
    }

    private static Run made(String name, int events, String... steps) {
        Run run = new Run(name, steps);
        for (int number = 0; number < events; number++) {
            run.go("event(" + number / 2 + ", " + number % 3 + ", " + number % 4 + ") = " + number);
        }
        return run;
    }

    private static void compare(String name, Run touched, Run untouched) {
        for (String call : AFTERWARDS) {
            Due.text(name + ", then " + call, touched.answer(call), untouched.answer(call));
        }
    }

    private static List<String> calls(int events) {
        String time = String.valueOf(events);
        List<String> calls = new ArrayList<>(List.of("count()", "latest()"));
        for (String edge : EDGES) {
            calls.add("length(" + edge + ")");
            for (String other : EDGES) {
                calls.add("event(" + edge + ", " + other + ", 9)");
                calls.add("pattern(" + edge + ", " + other + ")");
                calls.add("step(" + edge + ", " + other + ", 9, true)");
                calls.add("match(" + edge + ", " + other + ", 0)");
            }
            calls.add("event(" + time + ", " + edge + ", 9)");
            calls.add("match(0, 0, " + edge + ")");
        }
        return calls;
    }
}
