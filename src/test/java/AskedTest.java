/** Promises 27 to 35: what is asked of a row. */
public final class AskedTest {
    private static final String NO_BOOK = " -> throws.IndexOutOfBoundsException";
    private static final String WRONG = " -> throws.IllegalArgumentException";

    private AskedTest() {
    }

    public static void main(String[] args) {
        ofBook();
        notes();
        having();
        near();
        many();
        between();
        telling();
        same();
        Script.end();
    }

    /** A book 0 of four spans: codes 605, 703, 904 and 9900. */
    private static String[] withBook(String... more) {
        String[] all = new String[more.length + 4];
        all[0] = "put(0, 0, 99, 1)";
        all[1] = "put(0, 3, 7, 2)";
        all[2] = "put(0, 5, 6, 3)";
        all[3] = "put(0, 4, 9, 2)";
        System.arraycopy(more, 0, all, 4, more.length);
        return all;
    }

    private static void wrongSpans(String name, String rest) {
        Script.run(name + ", wrong", withBook(
            name + "(3, 3, 7" + rest + ")" + NO_BOOK, name + "(-1, 7, 3" + rest + ")" + NO_BOOK,
            name + "(0, 7, 3" + rest + ")" + WRONG, name + "(0, -1, 3" + rest + ")" + WRONG,
            name + "(0, 3, 100" + rest + ")" + WRONG, name + "(0, 100, 100" + rest + ")" + WRONG));
    }

    private static void ofBook() {
        Script.run("27 ofBook", withBook(
            "ofBook(0, 0) -> 4", "ofBook(0, 1) -> 605", "ofBook(0, 2) -> 9900",
            "ofBook(0, 3) -> 3", "ofBook(0, 4) -> 1",
            "ofBook(0, 5) -> " + ((605 ^ 3) + (703 ^ 2) + (904 ^ 2) + (9900 ^ 1)),
            "ofBook(1, 0) -> 0", "ofBook(1, 1) -> -1", "ofBook(1, 2) -> -1",
            "ofBook(1, 3) -> -1", "ofBook(1, 4) -> -1", "ofBook(1, 5) -> 0",
            "ofBook(0, 6)" + WRONG, "ofBook(0, -1)" + WRONG,
            "ofBook(3, 6)" + NO_BOOK, "ofBook(-1, 0)" + NO_BOOK));
        Script.run("27 check, by binary digits", "put(2, 3, 3, 47)",
            "ofBook(2, 5) -> " + (303 ^ 47), "put(2, 3, 3, 0)", "ofBook(2, 5) -> 303");
    }

    private static void notes() {
        Script.run("28 noteOf", withBook(
            "noteOf(0, 3, 7, 50) -> 2", "noteOf(0, 3, 8, 50) -> 50", "noteOf(0, 3, 8, -1) -> -1",
            "noteOf(0, 3, 8, 0) -> 0", "noteOf(0, 3, 8, 99) -> 99", "noteOf(1, 3, 7, 4) -> 4",
            "noteOf(0, 3, 7, 100)" + WRONG, "noteOf(0, 3, 7, -2)" + WRONG,
            "noteOf(3, 3, 7, 100)" + NO_BOOK));
        wrongSpans("noteOf", ", 5");
    }

    private static void having() {
        Script.run("29 has", withBook(
            "has(0, 3, 7) -> true", "has(0, 3, 6) -> false", "has(0, 2, 7) -> false",
            "has(0, 0, 99) -> true", "has(1, 3, 7) -> false"));
        wrongSpans("has", "");
        Script.run("30 hasNote", withBook(
            "hasNote(0, 2) -> true", "hasNote(0, 1) -> true", "hasNote(0, 3) -> true", "hasNote(0, 0) -> false",
            "hasNote(1, 2) -> false", "hasNote(0, 99) -> false",
            "hasNote(0, -1)" + WRONG, "hasNote(0, 100)" + WRONG, "hasNote(3, 100)" + NO_BOOK,
            "hasNote(-1, 0)" + NO_BOOK));
    }

    private static void near() {
        Script.run("31 near", withBook(
            "near(0, 3, 7, 0) -> 605", "near(0, 3, 7, 1) -> 703", "near(0, 3, 7, 2) -> 703",
            "near(0, 3, 7, 3) -> 904", "near(0, 3, 7, 4) -> 2", "near(0, 3, 7, 5) -> 2",
            "near(0, 4, 8, 0) -> 703", "near(0, 4, 8, 1) -> 703", "near(0, 4, 8, 2) -> 904",
            "near(0, 4, 8, 3) -> 904", "near(0, 4, 8, 4) -> 2", "near(0, 0, 10, 5) -> 1",
            "near(0, 0, 5, 4) -> -1", "near(0, 0, 5, 5) -> 3", "near(0, 5, 6, 0) -> -1",
            "near(0, 0, 0, 0) -> -1", "near(0, 0, 0, 1) -> -1", "near(0, 99, 99, 2) -> -1",
            "near(0, 0, 99, 3) -> -1", "near(0, 99, 99, 5) -> -1", "near(0, 99, 99, 4) -> 1",
            "near(1, 3, 7, 1) -> -1", "near(1, 3, 7, 5) -> -1",
            "near(0, 3, 7, 6)" + WRONG, "near(0, 3, 7, -1)" + WRONG, "near(3, 3, 7, 6)" + NO_BOOK));
        wrongSpans("near", ", 1");
    }

    private static void many() {
        Script.run("32 many", withBook(
            "many(0, 3, 7, 0) -> 1", "many(0, 3, 7, 1) -> 2", "many(0, 3, 7, 2) -> 3",
            "many(0, 3, 7, 3) -> 2", "many(0, 4, 7, 0) -> 2", "many(0, 4, 7, 1) -> 2",
            "many(0, 4, 7, 2) -> 2", "many(0, 4, 7, 3) -> 2", "many(0, 0, 0, 0) -> 0",
            "many(0, 0, 0, 2) -> 4", "many(0, 99, 99, 1) -> 4", "many(0, 99, 99, 3) -> 0",
            "many(1, 3, 7, 1) -> 0", "many(1, 3, 7, 2) -> 0",
            "many(0, 3, 7, 4)" + WRONG, "many(0, 3, 7, -1)" + WRONG, "many(-1, 3, 7, 4)" + NO_BOOK));
        wrongSpans("many", ", 1");
    }

    private static void between() {
        Script.run("33 between", withBook(
            "between(0, 5, 6, 4, 9) -> 3", "between(0, 5, 6, 5, 6) -> 1",
            "between(0, 6, 6, 3, 9) -> 1", "between(0, 0, 0, 99, 99) -> 4",
            "between(0, 4, 7, 4, 7) -> 0", "between(0, 3, 7, 5, 6) -> -9",
            "between(0, 3, 7, 2, 7) -> -9", "between(1, 3, 7, 4, 7) -> 0",
            "between(1, 3, 7, 2, 7) -> -9",
            "between(0, 3, 7, 8, 7)" + WRONG, "between(0, 8, 7, 8, 8)" + WRONG,
            "between(0, 8, 8, 7, 6)" + WRONG, "between(0, 3, 7, 0, 100)" + WRONG,
            "between(0, 3, 7, -1, 9)" + WRONG, "house(3) -> 3"));
        wrongSpans("between", ", 4, 9");
    }

    private static void telling() {
        Script.run("34 text", withBook(
            "text(0, false) -> \"5-6:3 3-7:2 4-9:2 0-99:1\"",
            "text(0, true) -> \"0-99:1 4-9:2 3-7:2 5-6:3\"",
            "text(1, false) -> \"\"", "text(1, true) -> \"\"",
            "put(1, 10, 20, 30)", "text(1, true) -> \"10-20:30\"",
            "text(3, true)" + NO_BOOK, "text(-1, false)" + NO_BOOK));
    }

    private static void same() {
        Script.run("35 areSame", withBook(
            "areSame(0, 0) -> true", "areSame(1, 2) -> true", "areSame(0, 1) -> false",
            "put(1, 4, 9, 2)", "put(1, 5, 6, 3)", "put(1, 3, 7, 2)",
            "areSame(0, 1) -> false", "areSame(1, 0) -> false",
            "put(1, 0, 99, 0)", "areSame(0, 1) -> false",
            "put(1, 0, 99, 1)", "areSame(0, 1) -> true", "areSame(1, 0) -> true",
            "take(1, 3, 7)", "put(1, 2, 7, 2)", "areSame(0, 1) -> false",
            "copy(1, 0)", "put(1, 5, 6, 0)", "areSame(0, 1) -> false",
            "copy(1, 0)", "take(1, 5, 6)", "put(1, 4, 6, 3)", "areSame(0, 1) -> false",
            "copy(1, 0)", "areSame(0, 1) -> true",
            "areSame(0, 3)" + NO_BOOK, "areSame(-1, 0)" + NO_BOOK, "areSame(3, 3)" + NO_BOOK,
            "areSame(0, -1)" + NO_BOOK));
    }
}
