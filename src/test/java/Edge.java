/**
 * One argument of one call, with the values on both sides of its boundary: the call has a ? where the
 * value goes, and each value is tried on a new object of its own, behind the same calls.
 */
final class Edge {
    static final String INDEX = "throws.IndexOutOfBoundsException";
    static final String ARGUMENT = "throws.IllegalArgumentException";
    static final String STATE = "throws.IllegalStateException";
    static final String LEAST = "-2147483648";
    static final String MOST = "2147483647";

    private final String title;
    private final String call;
    private final String[] before;

    private Edge(String title, String call, String[] before) {
        this.title = title;
        this.call = call;
        this.before = before;
    }

    static Edge of(String title, String call, String... before) {
        return new Edge(title, call, before);
    }

    Edge taken(String value, String answer) {
        tryOne(value, answer);
        return this;
    }

    Edge refused(String exception, String... values) {
        for (String value : values) {
            tryOne(value, exception);
        }
        return this;
    }

    private void tryOne(String value, String answer) {
        Script.run(title, join(before, call.replace("?", value) + " -> " + answer));
    }

    static String[] join(String[] first, String... more) {
        String[] all = new String[first.length + more.length];
        System.arraycopy(first, 0, all, 0, first.length);
        System.arraycopy(more, 0, all, first.length, more.length);
        return all;
    }
}
