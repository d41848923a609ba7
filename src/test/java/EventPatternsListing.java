import java.util.ArrayList;
import java.util.List;
import java.util.Random;

/**
 * Runs of calls, right and wrong ones, beside a model that follows the document's words: it lists
 * every row of kept events with every row of steps, throws out what is no match, and sorts the rest.
 */
public final class EventPatternsListing {
    private static final int RUNS = 1000;
    private static final int CALLS = 512;

    private record Event(int time, int kind, int value) { }

    private record Step(int kinds, int test, int n, boolean many) { }

    /** A match: its events' numbers and their steps. */
    private record Match(int[] numbers, int[] steps) { }

    private static final class Model {
        private final List<Event> events = new ArrayList<>();
        private final List<Step> steps = new ArrayList<>();
        private int style = 0;
        private int span = 0;
        private List<Match> listed = null;

        int event(int time, int kind, int value) {
            int least = events.isEmpty() ? 0 : events.get(events.size() - 1).time();
            if (time < least || time > 1000000 || kind < 0 || kind > 7) {
                throw new IllegalArgumentException();
            }
            if (events.size() == 400) {
                throw new UnsupportedOperationException();
            }
            listed = null;
            events.add(new Event(time, kind, value));
            return events.size() - 1;
        }

        int clear() {
            listed = null;
            events.clear();
            return 0;
        }

        int pattern(int newStyle, int newSpan) {
            if (newStyle < 0 || newStyle > 1 || newSpan < 0 || newSpan > 1000000) {
                throw new IllegalArgumentException();
            }
            listed = null;
            style = newStyle;
            span = newSpan;
            steps.clear();
            return 0;
        }

        int step(int kinds, int test, int n, boolean many) {
            if (kinds < 1 || kinds > 255 || test < 0 || test > 4) {
                throw new IllegalArgumentException();
            }
            if (steps.size() == 5) {
                throw new UnsupportedOperationException();
            }
            listed = null;
            steps.add(new Step(kinds, test, n, many));
            return steps.size() - 1;
        }

        int count() {
            return matches().size();
        }

        int latest() {
            int answer = 0;
            for (Match match : matches()) {
                if (match.numbers()[match.numbers().length - 1] == events.size() - 1) {
                    answer++;
                }
            }
            return answer;
        }

        int length(int k) {
            return numbered(k).numbers().length;
        }

        int match(int k, int i, int what) {
            Match match = numbered(k);
            if (i < 0 || i >= match.numbers().length) {
                throw new IndexOutOfBoundsException();
            }
            if (what != 0 && what != 1) {
                throw new IllegalArgumentException();
            }
            return what == 0 ? match.numbers()[i] : match.steps()[i];
        }

        private Match numbered(int k) {
            List<Match> all = matches();
            if (k < 0 || k >= all.size()) {
                throw new IndexOutOfBoundsException();
            }
            return all.get(k);
        }

        private List<Match> matches() {
            if (steps.isEmpty()) {
                throw new IllegalStateException();
            }
            if (listed == null) {
                listed = new ArrayList<>();
                int oldest = Math.max(0, events.size() - 16);
                for (int set = 1; set < 1 << (events.size() - oldest); set++) {
                    listWithSteps(numbersOf(set, oldest));
                }
                listed.sort(Model::compare);
            }
            return listed;
        }

        private static int[] numbersOf(int set, int oldest) {
            int[] numbers = new int[Integer.bitCount(set)];
            int size = 0;
            for (int bit = 0; bit < 16; bit++) {
                if ((set >> bit & 1) == 1) {
                    numbers[size++] = oldest + bit;
                }
            }
            return numbers;
        }

        private void listWithSteps(int[] numbers) {
            int last = numbers.length - 1;
            if (events.get(numbers[last]).time() - events.get(numbers[0]).time() > span) {
                return;
            }
            if (style == 0 && numbers[last] - numbers[0] != last) {
                return;
            }
            // A set bit stands for an event that goes over to the next step.
            int turns = (1 << (steps.size() - 1)) - 1;
            while (turns < 1 << last) {
                int[] own = stepsOf(turns, numbers.length);
                if (holds(numbers, own)) {
                    listed.add(new Match(numbers, own));
                }
                turns = nextWithAsManyBits(turns);
            }
        }

        private static int nextWithAsManyBits(int bits) {
            if (bits == 0) {
                return Integer.MAX_VALUE;
            }
            int lowest = bits & -bits;
            int raised = bits + lowest;
            return (bits ^ raised) >>> 2 >>> Integer.numberOfTrailingZeros(lowest) | raised;
        }

        private static int[] stepsOf(int turns, int length) {
            int[] own = new int[length];
            for (int i = 1; i < length; i++) {
                own[i] = own[i - 1] + (turns >> (i - 1) & 1);
            }
            return own;
        }

        private boolean holds(int[] numbers, int[] own) {
            for (int i = 0; i < numbers.length; i++) {
                Step step = steps.get(own[i]);
                Event event = events.get(numbers[i]);
                if (i > 0 && own[i] == own[i - 1] && !step.many()) {
                    return false;
                }
                if ((step.kinds() & 1 << event.kind()) == 0) {
                    return false;
                }
                int ahead = i == 0 ? 0 : events.get(numbers[i - 1]).value();
                boolean holds = switch (step.test()) {
                    case 1 -> i == 0 || event.value() > ahead;
                    case 2 -> i == 0 || event.value() < ahead;
                    case 3 -> event.value() == events.get(numbers[0]).value();
                    case 4 -> !(event.value() < step.n());
                    default -> true;
                };
                if (!holds) {
                    return false;
                }
            }
            return true;
        }

        private static int compare(Match a, Match b) {
            int shared = Math.min(a.numbers().length, b.numbers().length);
            for (int i = 0; i < shared; i++) {
                if (a.numbers()[i] != b.numbers()[i]) {
                    return Integer.compare(a.numbers()[i], b.numbers()[i]);
                }
                if (a.steps()[i] != b.steps()[i]) {
                    return Integer.compare(a.steps()[i], b.steps()[i]);
                }
            }
            return Integer.compare(a.numbers().length, b.numbers().length);
        }
    }

    /** One run: the object, the model and the chance that picks the calls. */
    private static final class Pair {
        private final int number;
        private final Random chance;
        private final EventPatterns object = new EventPatterns();
        private final Model model = new Model();
        private final int fewKept;
        private final int valueRange;

        Pair(int number) {
            this.number = number;
            chance = new Random(number);
            // The model lists all sets of events: most runs keep it to a few, some fill all sixteen.
            fewKept = number % 100 == 0 ? 400 : 9;
            valueRange = 1 + chance.nextInt(6);
        }

        void calls() {
            for (int made = 0; made < CALLS && Due.wrongs() < 20; made++) {
                if (model.events.size() >= fewKept) {
                    clear();
                    continue;
                }
                boolean slow = fewKept == 400;
                switch (chance.nextInt(slow ? 60 : 24)) {
                    case 0 -> pattern();
                    case 1, 2, 3 -> step();
                    case 4, 5, 6, 7 -> event();
                    case 8, 9 -> check("count()", object::count, model::count);
                    case 10, 11 -> check("latest()", object::latest, model::latest);
                    case 12, 13, 14, 15 -> length();
                    case 16, 17, 18, 19, 20, 21 -> match();
                    case 22 -> check("events()", object::events, model.events::size);
                    case 23 -> clearAtTimes();
                    default -> event();
                }
            }
        }

        private void event() {
            int at = rarely() ? odd(1000000) : Math.min(1000000, lastTime() + chance.nextInt(3));
            int kind = rarely() ? odd(7) : chance.nextInt(3);
            int value = rarely() ? chance.nextInt() : chance.nextInt(valueRange);
            check("event(" + at + ", " + kind + ", " + value + ")",
                    () -> object.event(at, kind, value), () -> model.event(at, kind, value));
        }

        private int lastTime() {
            return model.events.isEmpty() ? 0 : model.events.get(model.events.size() - 1).time();
        }

        private void clearAtTimes() {
            if (chance.nextInt(4) == 0) {
                clear();
            }
        }

        private void clear() {
            check("clear()", () -> {
                object.clear();
                return 0;
            }, model::clear);
        }

        private void pattern() {
            int style = rarely() ? odd(1) : chance.nextInt(2);
            int span = rarely() ? odd(1000000) : chance.nextInt(20);
            check("pattern(" + style + ", " + span + ")", () -> {
                object.pattern(style, span);
                return 0;
            }, () -> model.pattern(style, span));
        }

        private void step() {
            int kinds = rarely() ? odd(255) : chance.nextInt(255) + 1;
            int test = rarely() ? odd(4) : chance.nextInt(5);
            int n = rarely() ? chance.nextInt() : chance.nextInt(valueRange);
            boolean many = chance.nextBoolean();
            check("step(" + kinds + ", " + test + ", " + n + ", " + many + ")",
                    () -> object.step(kinds, test, n, many), () -> model.step(kinds, test, n, many));
        }

        private void length() {
            int k = someMatch();
            check("length(" + k + ")", () -> object.length(k), () -> model.length(k));
        }

        private void match() {
            int k = someMatch();
            int i = rarely() ? odd(16) : chance.nextInt(5);
            int what = rarely() ? odd(1) : chance.nextInt(2);
            check("match(" + k + ", " + i + ", " + what + ")",
                    () -> object.match(k, i, what), () -> model.match(k, i, what));
        }

        private int someMatch() {
            int count = model.steps.isEmpty() ? 0 : model.count();
            return rarely() ? odd(count) : chance.nextInt(count + 1);
        }

        private boolean rarely() {
            return chance.nextInt(12) == 0;
        }

        /** A number at or beyond the edges of 0 .. highest. */
        private int odd(int highest) {
            int[] choices = {-1, 0, highest, highest + 1, Integer.MIN_VALUE, Integer.MAX_VALUE};
            return choices[chance.nextInt(choices.length)];
        }

        private void check(String call, Due.Call asked, Due.Call due) {
            Due.text("run " + number + ": " + call, Due.told(asked), Due.told(due));
        }
    }

    public static void main(String[] args) {
        for (int number = 0; number < RUNS && Due.wrongs() < 20; number++) {
            new Pair(number).calls();
        }
        Due.end();
    }
}
