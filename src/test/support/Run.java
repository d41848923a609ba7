/**
 * A run of calls on a new object, each told as a text: "event(5, 0, 3)", or "event(5, 0, 3) = 0"
 * with the answer that is due. A call without an answer answers "done".
 */
final class Run {
    /** Nothing is promised of an object beyond these calls, so no run may go beyond them. */
    private static final int MOST_CALLS = 512;

    private final String name;
    private final EventPatterns object = new EventPatterns();
    private int made = 0;

    Run(String name, String... rows) {
        this.name = name;
        go(rows);
    }

    /** Makes the calls; one that is told without an answer must not throw. */
    Run go(String... rows) {
        for (String row : rows) {
            int at = row.indexOf(" = ");
            if (at >= 0) {
                String call = row.substring(0, at);
                Due.text(told(call), answer(call), row.substring(at + 3));
            } else {
                String got = answer(row);
                if (got.startsWith("throws.")) {
                    Due.text(told(row), got, "no exception");
                }
            }
        }
        return this;
    }

    /** Makes so many events more, the number n at time n, of kind n % 8 and with the value n. */
    Run events(int more) {
        int first = number(answer("events()"));
        for (int n = first; n < first + more; n++) {
            go("event(" + n + ", " + n % 8 + ", " + n + ") = " + n);
        }
        return this;
    }

    Run matches(String want) {
        Matches all = new Matches(object);
        spend(all.calls());
        Due.text(told("the matches"), all.text(), want);
        return this;
    }

    String answer(String call) {
        spend(1);
        int open = call.indexOf('(');
        String[] given = call.substring(open + 1, call.length() - 1).split(", ");
        if (call.equals("clear()") || call.startsWith("pattern(")) {
            String got = Due.told(() -> {
                change(given);
                return 0;
            });
            return got.equals("0") ? "done" : got;
        }
        return Due.told(() -> ask(call.substring(0, open), given));
    }

    private void spend(int calls) {
        made += calls;
        if (made > MOST_CALLS) {
            throw new AssertionError(name + ": more calls than a run may hold");
        }
    }

    private void change(String[] given) {
        if (given.length == 1) {
            object.clear();
        } else {
            object.pattern(number(given[0]), number(given[1]));
        }
    }

    private int ask(String method, String[] given) {
        switch (method) {
            case "event":
                return object.event(number(given[0]), number(given[1]), number(given[2]));
            case "step":
                return object.step(number(given[0]), number(given[1]), number(given[2]),
                        given[3].equals("true"));
            case "count":
                return object.count();
            case "latest":
                return object.latest();
            case "length":
                return object.length(number(given[0]));
            case "match":
                return object.match(number(given[0]), number(given[1]), number(given[2]));
            case "events":
                return object.events();
            default:
                throw new AssertionError("there is no " + method);
        }
    }

    private static int number(String text) {
        switch (text) {
            case "MIN":
                return Integer.MIN_VALUE;
            case "MAX":
                return Integer.MAX_VALUE;
            default:
                return Integer.parseInt(text);
        }
    }

    private String told(String call) {
        return name + ": " + call;
    }
}
