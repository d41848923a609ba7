/**
 * The boundary cases: a test for each sentence of the document that names one, told by the
 * sentence's own words. The answers that are due were worked out by hand.
 */
public final class EventPatternsEdges {
    private static final String ARGUMENT = " = throws.IllegalArgumentException";
    private static final String UNSUPPORTED = " = throws.UnsupportedOperationException";
    private static final String STATE = " = throws.IllegalStateException";
    private static final String INDEX = " = throws.IndexOutOfBoundsException";

    /** Numbers of events at which the sixteen kept ones fill up, begin to move on, or end. */
    private static final int[] SIZES = {1, 2, 15, 16, 17, 18, 31, 32, 33, 48, 49, 255, 256, 257, 399, 400};

    public static void main(String[] args) {
        numbersOfEvents();
        times();
        timesNotBelowTheOneBefore();
        kinds();
        values();
        keptSixteen();
        keptAndNoMore();
        styles();
        spans();
        numbersOfSteps();
        kindsOfSteps();
        testsThereAre();
        ofOneEvent();
        ofMany();
        testOneIsAbove();
        testTwoIsBelow();
        bothHoldOfTheFirst();
        aheadInTheMatch();
        testThreeIsTheFirst();
        testFourIsNotBelow();
        numbersRise();
        stepsOfMatch();
        spanIsAtMost();
        closeIsOneMore();
        orderByNumbers();
        orderBySteps();
        orderOfEnds();
        newObject();
        eventIfThereAre400();
        clearOfAll();
        patternWithoutSteps();
        stepIfThereAreFive();
        countWithoutSteps();
        countEdges();
        latestEdges();
        lengthEdges();
        matchEdges();
        matchWhat();
        eventsThereWere();
        Due.end();
    }

    private static void numbersOfEvents() {
        new Run("numbered from 0 as they come",
                "event(0, 0, 0) = 0",
                "event(0, 0, 0) = 1",
                "event(1, 0, 0) = 2");
        new Run("numbered: a refused event takes no number",
                "event(-1, 0, 0)" + ARGUMENT,
                "event(0, 0, 0) = 0",
                "event(0, 8, 0)" + ARGUMENT,
                "event(0, 0, 0) = 1");
        new Run("numbered from 0 again when all are gone",
                "event(0, 0, 0) = 0",
                "event(0, 0, 0) = 1",
                "clear()",
                "event(0, 0, 0) = 0");
        new Run("numbered to 399").events(400);
    }

    private static void times() {
        String[] wrong = {"MIN", "-1000000", "-1", "1000001", "MAX"};
        for (String time : wrong) {
            new Run("TIME, 0 .. 1000000: the first event",
                    "event(" + time + ", 0, 0)" + ARGUMENT,
                    "events() = 0");
            new Run("TIME, 0 .. 1000000: an event behind another",
                    "event(0, 0, 0) = 0",
                    "event(" + time + ", 0, 0)" + ARGUMENT,
                    "events() = 1");
        }
        String[] right = {"0", "1", "999999", "1000000"};
        for (String time : right) {
            new Run("TIME, 0 .. 1000000: the first event",
                    "event(" + time + ", 0, 0) = 0",
                    "events() = 1");
            new Run("TIME, 0 .. 1000000: an event behind another",
                    "event(0, 0, 0) = 0",
                    "event(" + time + ", 0, 0) = 1",
                    "events() = 2");
        }
    }

    private static void timesNotBelowTheOneBefore() {
        int[] times = {0, 1, 2, 500000, 999999, 1000000};
        for (int time : times) {
            new Run("not below that of the one before",
                    "event(" + time + ", 0, 0) = 0",
                    "event(" + (time - 1) + ", 0, 0)" + ARGUMENT,
                    "event(" + time + ", 0, 0) = 1",
                    "event(" + (time + 1) + ", 0, 0)" + (time < 1000000 ? " = 2" : ARGUMENT));
        }
        new Run("not below: it is the one before, not an earlier one",
                "event(3, 0, 0) = 0",
                "event(7, 0, 0) = 1",
                "event(5, 0, 0)" + ARGUMENT,
                "event(7, 0, 0) = 2");
        new Run("not below: a refused event is not the one before",
                "event(5, 0, 0) = 0",
                "event(9, 8, 0)" + ARGUMENT,
                "event(5, 0, 0) = 1");
        new Run("not below: there is none before, once all are gone",
                "event(1000000, 0, 0) = 0",
                "clear()",
                "event(0, 0, 0) = 0");
        for (int size : SIZES) {
            if (size < 400) {
                new Run("not below, behind " + size).events(size).go(
                        "event(" + (size - 2) + ", 0, 0)" + ARGUMENT,
                        "event(" + (size - 1) + ", 0, 0) = " + size);
            }
        }
    }

    private static void kinds() {
        String[] wrong = {"MIN", "-8", "-1", "8", "9", "32", "256", "MAX"};
        for (String kind : wrong) {
            new Run("KIND, 0 .. 7", "event(0, " + kind + ", 0)" + ARGUMENT, "events() = 0");
        }
        for (int kind = 0; kind <= 7; kind++) {
            new Run("KIND, 0 .. 7",
                    "event(0, " + kind + ", 0) = 0",
                    "step(" + (1 << kind) + ", 0, 0, false) = 0",
                    "count() = 1",
                    "pattern(0, 0)",
                    "step(" + (255 - (1 << kind)) + ", 0, 0, false) = 0",
                    "count() = 0");
        }
    }

    private static void values() {
        String[] values = {"MIN", "-1", "0", "1", "MAX"};
        for (String value : values) {
            new Run("VALUE (an int)",
                    "event(0, 0, " + value + ") = 0",
                    "event(0, 0, " + value + ") = 1",
                    "step(255, 4, " + value + ", false) = 0",
                    "step(255, 3, 0, false) = 1",
                    "count() = 1");
        }
    }

    private static void keptSixteen() {
        for (int size : SIZES) {
            int kept = Math.min(size, 16);
            int oldest = size - kept;
            Run run = new Run("The latest sixteen are KEPT, of " + size).events(size).go(
                    "step(255, 0, 0, false) = 0",
                    "count() = " + kept,
                    "match(0, 0, 0) = " + oldest,
                    "match(" + (kept - 1) + ", 0, 0) = " + (size - 1),
                    "match(" + kept + ", 0, 0)" + INDEX,
                    "events() = " + size);
            run.go("pattern(0, 0)", "step(255, 4, " + oldest + ", false) = 0", "count() = " + kept);
            run.go("pattern(0, 0)", "step(255, 4, " + (oldest + 1) + ", false) = 0",
                    "count() = " + (kept - 1));
            run.go("pattern(0, 0)", "step(" + (1 << oldest % 8) + ", 0, 0, false) = 0",
                    "match(0, 0, 0) = " + oldest);
            keptSideBySide(run, kept, oldest);
        }
    }

    /** The place where the sixteen come round again must not be seen. */
    private static void keptSideBySide(Run run, int kept, int oldest) {
        run.go("pattern(0, 1)", "step(255, 1, 0, false) = 0", "step(255, 1, 0, false) = 1",
                "count() = " + (kept - 1));
        for (int k = 0; k < kept - 1; k++) {
            run.go("match(" + k + ", 0, 0) = " + (oldest + k),
                    "match(" + k + ", 1, 0) = " + (oldest + k + 1));
        }
        run.go("pattern(0, " + (kept - 1) + ")", "step(255, 1, 0, true) = 0",
                "length(" + (kept - 1) + ") = " + kept,
                "latest() = " + kept,
                "count() = " + kept * (kept + 1) / 2);
    }

    private static void keptAndNoMore() {
        Run run = new Run("KEPT: one that is kept no more is in no match",
                "event(0, 5, 7) = 0",
                "step(32, 0, 0, false) = 0");
        for (int number = 1; number <= 15; number++) {
            run.go("event(0, 0, 100) = " + number, "count() = 1");
        }
        run.go("event(0, 0, 7) = 16",
                "count() = 0",
                "length(0)" + INDEX,
                "pattern(1, 0)",
                "step(255, 4, 7, false) = 0",
                "step(255, 3, 0, false) = 1",
                "latest() = 0",
                "pattern(1, 0)",
                "step(255, 2, 0, true) = 0",
                "length(0) = 1",
                "match(0, 0, 0) = 1");
    }

    private static void styles() {
        String[] wrong = {"MIN", "-1", "2", "3", "MAX"};
        for (String style : wrong) {
            new Run("STYLE (0 CLOSE, 1 LOOSE)",
                    "pattern(" + style + ", 0)" + ARGUMENT,
                    "pattern(" + style + ", 1000000)" + ARGUMENT);
        }
        String[] row = {"event(0, 0, 0)", "event(0, 1, 0)", "event(0, 0, 0)"};
        String[] steps = {"step(1, 0, 0, false)", "step(1, 0, 0, false)"};
        new Run("STYLE (0 CLOSE", row).go("pattern(0, 0) = done").go(steps).go("count() = 0");
        new Run("STYLE (1 LOOSE", row).go("pattern(1, 0) = done").go(steps).go("count() = 1");
    }

    private static void spans() {
        for (int style = 0; style <= 1; style++) {
            String[] wrong = {"MIN", "-1000000", "-1", "1000001", "MAX"};
            for (String span : wrong) {
                new Run("SPAN (0 .. 1000000)", "pattern(" + style + ", " + span + ")" + ARGUMENT);
            }
            String[] right = {"0", "1", "999999", "1000000"};
            for (String span : right) {
                new Run("SPAN (0 .. 1000000)", "pattern(" + style + ", " + span + ") = done");
            }
        }
        new Run("STYLE and SPAN both wrong", "pattern(2, -1)" + ARGUMENT);
    }

    private static void numbersOfSteps() {
        for (int steps = 1; steps <= 5; steps++) {
            Run run = new Run("STEPS, one to five: " + steps, "pattern(1, 1000000)");
            for (int step = 0; step < steps; step++) {
                run.go("step(255, 0, 0, false) = " + step);
            }
            run.go("count() = 0", "latest() = 0", "length(0)" + INDEX, "match(0, 0, 0)" + INDEX);
            for (int events = 1; events < steps; events++) {
                run.go("event(0, 0, 0)", "count() = 0", "latest() = 0", "length(0)" + INDEX);
            }
            run.go("event(0, 0, 0)", "count() = 1", "latest() = 1",
                    "length(0) = " + steps,
                    "match(0, " + (steps - 1) + ", 1) = " + (steps - 1),
                    "match(0, " + steps + ", 1)" + INDEX);
        }
    }

    private static void kindsOfSteps() {
        String[] wrong = {"MIN", "-255", "-1", "0", "256", "257", "511", "65536", "MAX"};
        for (String kinds : wrong) {
            new Run("kinds (bits) 1 .. 255", "step(" + kinds + ", 0, 0, false)" + ARGUMENT,
                    "step(" + kinds + ", 4, 9, true)" + ARGUMENT, "count()" + STATE);
        }
        for (int kinds = 1; kinds <= 255; kinds++) {
            Run run = new Run("kinds (bits) " + kinds, "step(" + kinds + ", 0, 0, false) = 0");
            int due = 0;
            for (int kind = 0; kind <= 7; kind++) {
                due += kinds >> kind & 1;
                run.go("event(0, " + kind + ", 0)", "count() = " + due);
            }
        }
    }

    private static void testsThereAre() {
        String[] wrong = {"MIN", "-1", "5", "6", "MAX"};
        for (String test : wrong) {
            new Run("TESTS: 0 .. 4", "step(1, " + test + ", 0, false)" + ARGUMENT, "count()" + STATE);
            new Run("TESTS: 0 .. 4, of many", "step(255, " + test + ", 9, true)" + ARGUMENT);
            new Run("TESTS and kinds both wrong", "step(0, " + test + ", 0, false)" + ARGUMENT);
        }
        for (int test = 0; test <= 4; test++) {
            new Run("TESTS: 0 .. 4, n an int",
                    "step(1, " + test + ", MIN, false) = 0",
                    "step(1, " + test + ", 0, true) = 1",
                    "step(1, " + test + ", MAX, false) = 2");
        }
        for (int test = 0; test <= 3; test++) {
            new Run("TESTS: n is of test 4 alone", "event(0, 0, 5) = 0",
                    "step(1, " + test + ", MAX, false) = 0", "count() = 1");
        }
    }

    private static void ofOneEvent() {
        new Run("a step of one event",
                "event(0, 0, 0)",
                "pattern(1, 0)",
                "step(1, 0, 0, false)").matches("0/0").go(
                "event(0, 0, 0)").matches("0/0 1/0").go(
                "step(1, 0, 0, false)").matches("0/0,1/1");
    }

    private static void ofMany() {
        new Run("of MANY: one or more",
                "pattern(1, 0)",
                "step(1, 0, 0, true)",
                "count() = 0",
                "event(0, 0, 0)").matches("0/0").go(
                "event(0, 0, 0)").matches("0/0 0/0,1/0 1/0");
        new Run("of MANY: one or more of each, not none",
                "event(0, 0, 0)", "event(0, 2, 0)",
                "step(1, 0, 0, false)", "step(2, 0, 0, true)", "step(4, 0, 0, false)",
                "count() = 0",
                "clear()",
                "event(0, 0, 0)", "event(0, 1, 0)", "event(0, 2, 0)").matches("0/0,1/1,2/2");
        Run run = new Run("of MANY: all that are kept", "pattern(0, 1000000)", "step(255, 0, 0, true)");
        run.events(20).go("length(15) = 16", "match(15, 15, 0) = 19", "match(15, 15, 1) = 0");
    }

    private static void testOneIsAbove() {
        String[] above = {"0 1", "-1 0", "MIN -2147483647", "2147483646 MAX", "MIN MAX", "MIN 0", "0 MAX",
            "-1 MAX", "MIN 1"};
        String[] not = {"0 0", "1 0", "0 -1", "MIN MIN", "MAX MAX", "MAX MIN", "0 MIN", "MAX 0", "MAX -1", "1 MIN"};
        secondEvents("1 the value is above that of the event ahead", 1, "0", above, not);
    }

    private static void testTwoIsBelow() {
        String[] below = {"1 0", "0 -1", "-2147483647 MIN", "MAX 2147483646", "MAX MIN", "0 MIN", "MAX 0",
            "MAX -1", "1 MIN"};
        String[] not = {"0 0", "0 1", "-1 0", "MIN MIN", "MAX MAX", "MIN MAX", "MIN 0", "0 MAX", "-1 MAX", "MIN 1"};
        secondEvents("2 below it", 2, "0", below, not);
    }

    /** Rows of two values: whether the second one's event may be in the match behind the first's. */
    private static void secondEvents(String name, int test, String n, String[] may, String[] mayNot) {
        for (String row : may) {
            secondEvent(name + ": " + row, test, n, row.split(" "), 1);
        }
        for (String row : mayNot) {
            secondEvent(name + ": " + row, test, n, row.split(" "), 0);
        }
    }

    private static void secondEvent(String name, int test, String n, String[] values, int due) {
        new Run(name, "event(0, 0, " + values[0] + ")", "event(0, 0, " + values[1] + ")",
                "step(255, 0, 0, false)", "step(255, " + test + ", " + n + ", false)", "count() = " + due);
        new Run(name + ", of many", "event(0, 0, " + values[0] + ")", "event(0, 1, " + values[1] + ")",
                "step(1, 0, 0, true)", "step(2, " + test + ", " + n + ", true)", "count() = " + due);
    }

    private static void bothHoldOfTheFirst() {
        String[] values = {"MIN", "-1", "0", "1", "MAX"};
        for (String value : values) {
            for (int test = 1; test <= 2; test++) {
                new Run("both hold of the first event",
                        "event(0, 0, " + value + ")",
                        "step(255, " + test + ", 0, false)",
                        "count() = 1",
                        "step(255, 0, 0, false)",
                        "event(0, 0, " + value + ")",
                        "count() = 1");
            }
        }
        new Run("both hold of the match's first event, not of each step's first one",
                "event(0, 0, 5)", "event(0, 0, 5)",
                "step(255, 1, 0, false)", "step(255, 1, 0, false)",
                "count() = 0",
                "pattern(0, 0)",
                "step(255, 2, 0, false)", "step(255, 2, 0, false)",
                "count() = 0");
        new Run("both hold of a match's first event, whatever was before it in the row",
                "event(0, 1, 5)", "event(0, 0, 5)",
                "step(1, 1, 0, false)",
                "count() = 1",
                "pattern(0, 0)",
                "step(1, 2, 0, false)",
                "count() = 1");
    }

    private static void aheadInTheMatch() {
        String[] row = {"event(0, 0, 5)", "event(0, 1, 9)", "event(0, 2, 7)"};
        new Run("the event ahead in the match is not the one ahead in the row", row).go(
                "pattern(1, 0)",
                "step(1, 0, 0, false)", "step(4, 1, 0, false)").matches("0/0,2/1").go(
                "pattern(1, 0)",
                "step(1, 0, 0, false)", "step(4, 2, 0, false)").matches("");
        new Run("the event ahead in the match is not its first one", row).go(
                "pattern(1, 0)",
                "step(1, 0, 0, false)", "step(2, 0, 0, false)", "step(4, 1, 0, false)").matches("").go(
                "pattern(1, 0)",
                "step(1, 0, 0, false)", "step(2, 0, 0, false)", "step(4, 2, 0, false)").matches("0/0,1/1,2/2");
        new Run("the event ahead may be of the same step", row).go(
                "pattern(1, 0)", "step(255, 1, 0, true)").matches("0/0 0/0,1/0 0/0,2/0 1/0 2/0").go(
                "pattern(1, 0)", "step(255, 2, 0, true)").matches("0/0 1/0 1/0,2/0 2/0");
    }

    private static void testThreeIsTheFirst() {
        String[] alike = {"0 0", "-1 -1", "MIN MIN", "MAX MAX"};
        String[] not = {"0 1", "0 -1", "MIN MAX", "MAX MIN", "0 MIN", "-1 MAX", "1 -1"};
        secondEvents("3 it is that of the match's first event", 3, "0", alike, not);
        new Run("3 holds of the first event itself",
                "event(0, 0, 5)", "step(255, 3, 0, false)", "count() = 1",
                "event(0, 0, 6)", "count() = 2");
        new Run("3 is against the first event, not the one ahead",
                "event(0, 0, 5)", "event(0, 1, 6)", "event(0, 2, 5)",
                "step(1, 0, 0, false)", "step(2, 0, 0, false)", "step(4, 3, 0, false)",
                "count() = 1",
                "clear()",
                "event(0, 0, 5)", "event(0, 1, 6)", "event(0, 2, 6)",
                "count() = 0");
        new Run("3 is against the match's first event, not the row's",
                "event(0, 7, 5)", "event(0, 0, 6)", "event(0, 1, 6)",
                "step(1, 0, 0, false)", "step(2, 3, 0, false)").matches("1/0,2/1");
    }

    private static void testFourIsNotBelow() {
        String[] not = {"0 0", "0 1", "0 MAX"};
        String[] below = {"0 -1", "0 MIN"};
        secondEvents("4 it isn't below n = 0", 4, "0", not, below);
        secondEvents("4 it isn't below n = MIN", 4, "MIN",
                new String[] {"0 MIN", "0 -2147483647", "0 MAX"}, new String[0]);
        secondEvents("4 it isn't below n = MAX", 4, "MAX",
                new String[] {"0 MAX"}, new String[] {"0 2147483646", "0 0", "0 MIN"});
        new Run("4 is of the first event too",
                "event(0, 0, 4)", "event(0, 0, 5)", "event(0, 0, 6)",
                "step(255, 4, 5, false)").matches("1/0 2/0");
    }

    private static void numbersRise() {
        new Run("their numbers rising: no event twice",
                "event(0, 0, 0)",
                "pattern(1, 1000000)",
                "step(1, 0, 0, true)", "step(1, 0, 0, true)",
                "count() = 0");
        new Run("their numbers rising: none goes back, not even at the same time",
                "event(0, 1, 0)", "event(0, 0, 0)",
                "pattern(1, 1000000)",
                "step(1, 0, 0, false)", "step(2, 0, 0, false)",
                "count() = 0");
    }

    private static void stepsOfMatch() {
        String[] steps = {"pattern(1, 0)", "step(1, 0, 0, false)", "step(2, 0, 0, true)", "step(4, 0, 0, false)"};
        new Run("the first one with step 0", steps).go(
                "event(0, 1, 0)", "event(0, 2, 0)", "count() = 0");
        new Run("each next one with the next step, none left out", steps).go(
                "event(0, 0, 0)", "event(0, 2, 0)", "count() = 0");
        new Run("the last one with the last step", steps).go(
                "event(0, 0, 0)", "event(0, 1, 0)", "count() = 0", "latest() = 0");
        new Run("with the same step, if that is of many", steps).go(
                "event(0, 0, 0)", "event(0, 0, 0)", "event(0, 1, 0)", "event(0, 1, 0)",
                "event(0, 2, 0)", "event(0, 2, 0)").matches(
                "0/0,2/1,3/1,4/2 0/0,2/1,3/1,5/2 0/0,2/1,4/2 0/0,2/1,5/2 0/0,3/1,4/2 0/0,3/1,5/2 "
                        + "1/0,2/1,3/1,4/2 1/0,2/1,3/1,5/2 1/0,2/1,4/2 1/0,2/1,5/2 1/0,3/1,4/2 1/0,3/1,5/2");
        new Run("each one's kind is one of its step's", steps).go(
                "event(0, 0, 0)", "event(0, 3, 0)", "event(0, 2, 0)", "count() = 0",
                "event(0, 1, 0)", "count() = 0", "event(0, 2, 0)").matches("0/0,3/1,4/2");
    }

    private static void spanIsAtMost() {
        int[] apart = {0, 1, 2, 500000, 999999, 1000000};
        for (int time : apart) {
            Run run = new Run("at most SPAN: " + time + " apart",
                    "event(0, 0, 0)", "event(" + time + ", 1, 0)");
            for (int style = 0; style <= 1; style++) {
                if (time > 0) {
                    run.go("pattern(" + style + ", " + (time - 1) + ")",
                            "step(1, 0, 0, false)", "step(2, 0, 0, false)",
                            "count() = 0", "latest() = 0", "length(0)" + INDEX);
                }
                run.go("pattern(" + style + ", " + time + ")",
                        "step(1, 0, 0, false)", "step(2, 0, 0, false)",
                        "count() = 1", "latest() = 1", "length(0) = 2");
            }
        }
        new Run("at most SPAN: the last one's time less the first one's, not from one to the next",
                "event(100, 0, 0)", "event(105, 0, 0)", "event(110, 0, 0)",
                "pattern(1, 9)", "step(1, 0, 0, true)").matches("0/0 0/0,1/0 1/0 1/0,2/0 2/0").go(
                "pattern(1, 10)", "step(1, 0, 0, true)").matches(
                "0/0 0/0,1/0 0/0,1/0,2/0 0/0,2/0 1/0 1/0,2/0 2/0");
        new Run("at most SPAN: one event alone is in any span",
                "event(1000000, 0, 0)", "pattern(1, 0)", "step(1, 0, 0, true)", "count() = 1");
    }

    private static void closeIsOneMore() {
        new Run("CLOSE: each number is one more than the one ahead",
                "event(0, 0, 0)", "event(0, 2, 0)", "event(0, 1, 0)",
                "step(1, 0, 0, false)", "step(2, 0, 0, false)",
                "count() = 0",
                "event(0, 0, 0)", "event(0, 1, 0)").matches("3/0,4/1").go(
                "pattern(1, 0)",
                "step(1, 0, 0, false)", "step(2, 0, 0, false)").matches("0/0,2/1 0/0,4/1 3/0,4/1");
        new Run("CLOSE: within a step of many too",
                "event(0, 0, 0)", "event(0, 1, 0)", "event(0, 0, 0)", "event(0, 0, 0)",
                "step(1, 0, 0, true)").matches("0/0 2/0 2/0,3/0 3/0");
        new Run("CLOSE: a match need not begin with the oldest nor end with the latest",
                "event(0, 2, 0)", "event(0, 0, 0)", "event(0, 1, 0)", "event(0, 2, 0)",
                "step(1, 0, 0, false)", "step(2, 0, 0, false)").matches("1/0,2/1").go("latest() = 0");
    }

    private static void orderByNumbers() {
        new Run("by their first events' numbers, then by their second ones'",
                "event(0, 0, 9)", "event(0, 0, 1)", "event(0, 0, 5)",
                "pattern(1, 0)",
                "step(1, 0, 0, false)", "step(1, 0, 0, false)").matches("0/0,1/1 0/0,2/1 1/0,2/1");
        new Run("then by their third ones likewise",
                "event(0, 0, 9)", "event(0, 0, 1)", "event(0, 0, 5)", "event(0, 0, 2)",
                "pattern(1, 0)",
                "step(1, 0, 0, false)", "step(1, 0, 0, false)", "step(1, 0, 0, false)").matches(
                "0/0,1/1,2/2 0/0,1/1,3/2 0/0,2/1,3/2 1/0,2/1,3/2");
    }

    private static void orderBySteps() {
        new Run("where these are one, by their steps",
                "event(0, 0, 0)", "event(0, 0, 0)", "event(0, 1, 0)",
                "pattern(1, 0)",
                "step(1, 0, 0, true)", "step(3, 0, 0, true)").matches(
                "0/0,1/0,2/1 0/0,1/1 0/0,1/1,2/1 0/0,2/1 1/0,2/1");
        new Run("by a number ahead of the step, and the third likewise",
                "event(0, 0, 0)", "event(0, 0, 0)", "event(0, 0, 0)", "event(0, 0, 0)",
                "pattern(1, 0)",
                "step(1, 0, 0, true)", "step(1, 0, 0, true)").matches(
                "0/0,1/0,2/0,3/1 0/0,1/0,2/1 0/0,1/0,2/1,3/1 0/0,1/0,3/1 "
                        + "0/0,1/1 0/0,1/1,2/1 0/0,1/1,2/1,3/1 0/0,1/1,3/1 "
                        + "0/0,2/0,3/1 0/0,2/1 0/0,2/1,3/1 0/0,3/1 "
                        + "1/0,2/0,3/1 1/0,2/1 1/0,2/1,3/1 1/0,3/1 2/0,3/1");
    }

    private static void orderOfEnds() {
        new Run("one that ends comes ahead of those that go on",
                "event(0, 0, 0)", "event(0, 0, 0)", "event(0, 0, 0)",
                "pattern(1, 0)",
                "step(1, 0, 0, true)").matches("0/0 0/0,1/0 0/0,1/0,2/0 0/0,2/0 1/0 1/0,2/0 2/0").go(
                "pattern(0, 0)",
                "step(1, 0, 0, true)").matches("0/0 0/0,1/0 0/0,1/0,2/0 1/0 1/0,2/0 2/0");
    }

    private static void newObject() {
        new Run("No events", "events() = 0", "step(255, 0, 0, true) = 0", "count() = 0", "latest() = 0");
        new Run("a pattern without steps",
                "count()" + STATE, "latest()" + STATE, "length(0)" + STATE, "match(0, 0, 0)" + STATE);
        new Run("a pattern of style 0",
                "event(0, 0, 0)", "event(0, 1, 0)", "event(0, 0, 0)",
                "step(1, 0, 0, false)", "step(1, 0, 0, false)", "count() = 0");
        new Run("a pattern of span 0",
                "event(4, 0, 0)", "event(4, 0, 0)", "event(5, 0, 0)",
                "step(1, 0, 0, false)", "step(1, 0, 0, false)").matches("0/0,1/1");
    }

    private static void eventIfThereAre400() {
        new Run("if there are 400").events(399).go(
                "event(1000000, 7, MAX) = 399",
                "event(1000000, 7, MAX)" + UNSUPPORTED,
                "event(1000000, 0, 0)" + UNSUPPORTED,
                "event(999999, 0, 0)" + ARGUMENT,
                "event(1000001, 0, 0)" + ARGUMENT,
                "event(1000000, 8, 0)" + ARGUMENT,
                "events() = 400",
                "clear()",
                "event(0, 0, 0) = 0",
                "events() = 1");
        new Run("if there are 400, those that are gone not among them").events(100).go("clear()")
                .events(400).go("event(400, 0, 0)" + UNSUPPORTED, "events() = 400");
        Run run = new Run("if there are 400, refused ones not among them");
        for (int refused = 0; refused < 100; refused++) {
            run.go("event(0, 8, 0)" + ARGUMENT);
        }
        run.events(400).go("event(400, 0, 0)" + UNSUPPORTED);
    }

    private static void clearOfAll() {
        new Run("All events go, when there are none", "clear() = done", "events() = 0", "event(3, 0, 0) = 0");
        new Run("All events go, twice", "event(3, 0, 0)", "clear() = done", "clear() = done", "events() = 0");
        for (int size : SIZES) {
            new Run("All events go, of " + size, "pattern(1, 1000000)", "step(255, 0, 0, true)")
                    .events(size).go(
                    "clear() = done",
                    "events() = 0",
                    "count() = 0",
                    "latest() = 0",
                    "length(0)" + INDEX,
                    "match(0, 0, 0)" + INDEX,
                    "event(0, 3, -1) = 0",
                    "count() = 1",
                    "latest() = 1",
                    "match(0, 0, 0) = 0",
                    "events() = 1").events(20).go("match(0, 0, 0) = 5");
        }
        new Run("All events go, and nothing else",
                "pattern(1, 3)",
                "step(1, 0, 0, false)", "step(2, 1, 0, true)",
                "clear()",
                "event(0, 0, 5)", "event(0, 2, 0)", "event(3, 1, 6)", "event(3, 1, 4)", "event(4, 1, 9)")
                .matches("0/0,2/1").go("step(255, 0, 0, true) = 2");
    }

    private static void patternWithoutSteps() {
        for (int steps = 0; steps <= 5; steps++) {
            Run run = new Run("A pattern without steps, behind one with " + steps, "event(0, 0, 0)");
            for (int step = 0; step < steps; step++) {
                run.go("step(1, 0, 0, true) = " + step);
            }
            run.go("pattern(0, 0) = done",
                    "count()" + STATE, "latest()" + STATE, "length(0)" + STATE, "match(0, 0, 0)" + STATE,
                    "events() = 1",
                    "step(1, 0, 0, false) = 0",
                    "count() = 1");
        }
        new Run("A pattern without steps: nothing of the earlier steps is left",
                "event(0, 0, 1)", "event(0, 1, 2)",
                "step(1, 0, 0, true)", "step(2, 4, 9, true)",
                "count() = 0",
                "pattern(0, 0)",
                "step(255, 0, 0, false)").matches("0/0 1/0").go(
                "step(255, 0, 0, false)").matches("0/0,1/1");
    }

    private static void stepIfThereAreFive() {
        Run run = new Run("if there are five", "event(0, 0, 0)");
        for (int step = 0; step < 5; step++) {
            run.go("step(1, 0, 0, true) = " + step);
        }
        run.go("step(1, 0, 0, true)" + UNSUPPORTED,
                "step(255, 4, MAX, false)" + UNSUPPORTED,
                "step(0, 0, 0, true)" + ARGUMENT,
                "step(256, 0, 0, true)" + ARGUMENT,
                "step(1, -1, 0, true)" + ARGUMENT,
                "step(1, 5, 0, true)" + ARGUMENT,
                "clear()",
                "step(1, 0, 0, true)" + UNSUPPORTED,
                "pattern(0, 0)",
                "step(1, 0, 0, true) = 0");
        new Run("if there are five, refused ones not among them",
                "step(0, 0, 0, true)" + ARGUMENT, "step(1, 5, 0, true)" + ARGUMENT,
                "step(1, 0, 0, true) = 0", "step(0, 0, 0, true)" + ARGUMENT,
                "step(1, 0, 0, true) = 1", "step(1, 0, 0, true) = 2",
                "step(1, 0, 0, true) = 3", "step(1, 5, 0, true)" + ARGUMENT,
                "step(1, 0, 0, true) = 4", "step(1, 0, 0, true)" + UNSUPPORTED);
    }

    private static void countWithoutSteps() {
        String[] asked = {"count()", "latest()", "length(0)", "length(-1)", "length(MAX)", "match(0, 0, 0)",
            "match(-1, 0, 0)", "match(0, -1, 0)", "match(0, 0, 2)", "match(MIN, MAX, MIN)"};
        for (String call : asked) {
            new Run("if there are no steps, nor events", call + STATE);
            new Run("if there are no steps, but an event", "event(0, 0, 0)", call + STATE);
            new Run("if there are no steps, as one was refused", "event(0, 0, 0)",
                    "step(0, 0, 0, false)" + ARGUMENT, call + STATE);
            new Run("if there are no steps any more", "event(0, 0, 0)",
                    "step(1, 0, 0, false)", "pattern(0, 0)", call + STATE);
        }
    }

    private static void countEdges() {
        new Run("How many matches there are: none without events", "step(255, 0, 0, true)", "count() = 0");
        new Run("How many matches there are: none that fits", "event(0, 0, 0)", "step(254, 0, 0, true)",
                "count() = 0");
        // Of s events, five steps can part them in C(s - 1, 4) ways: the sums of C(16, s) * C(s - 1, 4),
        // and with the latest event among them of C(15, s - 1) * C(s - 1, 4), over s = 5 .. 16.
        new Run("How many matches there are: the most, and the last of them", "pattern(1, 1000000)",
                "step(255, 0, 0, true)", "step(255, 0, 0, true)", "step(255, 0, 0, true)",
                "step(255, 0, 0, true)", "step(255, 0, 0, true)").events(17).go(
                "count() = 4374527",
                "latest() = 2795520",
                "length(0) = 16",
                "match(0, 0, 0) = 1",
                "match(0, 15, 0) = 16",
                "match(0, 11, 1) = 0",
                "match(0, 15, 1) = 4",
                "length(4374526) = 5",
                "match(4374526, 0, 0) = 12",
                "match(4374526, 4, 0) = 16",
                "match(4374526, 4, 1) = 4",
                "length(4374527)" + INDEX,
                "match(4374527, 0, 0)" + INDEX,
                "length(MAX)" + INDEX);
    }

    private static void latestEdges() {
        new Run("end with the latest event: there is none", "step(255, 0, 0, true)", "latest() = 0");
        new Run("end with the latest event: it is the only one",
                "step(1, 0, 0, true)", "event(0, 0, 0)", "latest() = 1");
        new Run("end with the latest event, as one that begins there",
                "step(1, 0, 0, true)", "event(0, 1, 0)", "event(0, 0, 0)", "latest() = 1");
        new Run("end with the latest event, not with one that is like it",
                "step(1, 0, 0, true)", "event(0, 0, 0)", "event(0, 0, 0)", "latest() = 2", "count() = 3");
        new Run("end with the latest event, not ahead of it",
                "step(1, 0, 0, true)", "event(0, 0, 0)", "event(0, 1, 0)", "latest() = 0", "count() = 1");
        new Run("end with the latest event, in span",
                "pattern(1, 5)", "step(1, 0, 0, true)",
                "event(0, 0, 0)", "event(1, 0, 0)", "event(6, 0, 0)", "latest() = 2", "count() = 5");
        new Run("end with the latest event: a refused one is not the latest",
                "step(1, 0, 0, false)", "event(0, 0, 0)", "event(0, 8, 0)" + ARGUMENT, "latest() = 1");
        new Run("end with the latest event, when all are gone",
                "step(1, 0, 0, false)", "event(0, 0, 0)", "clear()", "latest() = 0");
    }

    private static void lengthEdges() {
        String[] never = {"MIN", "-1", "MAX"};
        Run run = new Run("if there is no such match", "pattern(1, 0)", "step(1, 0, 0, true)", "length(0)" + INDEX);
        for (int events = 1; events <= 8; events++) {
            int count = (1 << events) - 1;
            run.go("event(0, 0, 0)",
                    "length(0) = 1",
                    "length(" + (count - 1) + ") = 1",
                    "length(" + count + ")" + INDEX,
                    "length(" + (count + 1) + ")" + INDEX);
            for (String k : never) {
                run.go("length(" + k + ")" + INDEX);
            }
        }
        run.go("length(7) = 8", "clear()", "length(0)" + INDEX);
    }

    private static void matchEdges() {
        Run run = new Run("if the match has no such event", "pattern(0, 0)", "step(1, 0, 0, true)",
                "match(0, 0, 0)" + INDEX, "match(0, 0, 1)" + INDEX);
        String[] never = {"MIN", "-1", "16", "17", "MAX"};
        for (int length = 1; length <= 16; length++) {
            run.go("event(0, 0, 0)",
                    "match(" + (length - 1) + ", 0, 0) = 0",
                    "match(" + (length - 1) + ", " + (length - 1) + ", 0) = " + (length - 1),
                    "match(" + (length - 1) + ", " + length + ", 0)" + INDEX);
            for (String i : never) {
                run.go("match(" + (length - 1) + ", " + i + ", 0)" + INDEX,
                        "match(" + (length - 1) + ", " + i + ", 1)" + INDEX);
            }
        }
        run.go("match(0, 1, 0)" + INDEX, "match(1, 1, 0) = 1");
        new Run("Exceptions as for length()",
                "event(0, 0, 0)", "step(1, 0, 0, false)",
                "match(1, 0, 0)" + INDEX, "match(-1, 0, 0)" + INDEX, "match(MIN, 0, 0)" + INDEX,
                "match(MAX, 0, 0)" + INDEX, "match(1, 0, 1)" + INDEX, "match(-1, 0, 1)" + INDEX);
    }

    private static void matchWhat() {
        String[] wrong = {"MIN", "-1", "2", "3", "MAX"};
        for (String what : wrong) {
            new Run("IllegalArgumentException for another what",
                    "event(0, 0, 0)", "step(1, 0, 0, false)",
                    "match(0, 0, " + what + ")" + ARGUMENT,
                    "match(1, 0, " + what + ")" + INDEX,
                    "match(-1, 0, " + what + ")" + INDEX,
                    "match(0, 1, " + what + ")" + INDEX,
                    "match(0, -1, " + what + ")" + INDEX);
        }
        new Run("its number (what = 0), its step (1)",
                "event(0, 7, 0)", "event(0, 0, 0)", "event(0, 1, 0)",
                "step(1, 0, 0, false)", "step(2, 0, 0, false)",
                "match(0, 0, 0) = 1", "match(0, 0, 1) = 0", "match(0, 1, 0) = 2", "match(0, 1, 1) = 1");
    }

    private static void eventsThereWere() {
        for (int size : SIZES) {
            new Run("How many events there were: " + size).events(size).go("events() = " + size);
        }
        new Run("How many events there were: none that was refused",
                "events() = 0", "event(0, 8, 0)" + ARGUMENT, "event(-1, 0, 0)" + ARGUMENT, "events() = 0");
        new Run("How many events there were, when all are gone",
                "event(0, 0, 0)", "event(0, 0, 0)", "clear()", "events() = 0", "event(0, 0, 0)", "events() = 1");
    }
}
