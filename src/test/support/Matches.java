/** All matches of an object in one text, and how many calls it took to ask for them. */
final class Matches {
    private final StringBuilder text = new StringBuilder();
    private int calls = 1;

    Matches(EventPatterns x) {
        int count = x.count();
        for (int k = 0; k < count; k++) {
            int length = x.length(k);
            for (int i = 0; i < length; i++) {
                text.append(i > 0 ? "," : k > 0 ? " " : "");
                text.append(x.match(k, i, 0)).append('/').append(x.match(k, i, 1));
            }
            calls += 1 + 2 * length;
        }
    }

    /** In their order, with spaces between: number/step of each event, joined by commas. */
    String text() {
        return text.toString();
    }

    int calls() {
        return calls;
    }
}
