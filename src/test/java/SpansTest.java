/** Promises 1 to 14: spans come and go. */
public final class SpansTest {
    private static final String NO_BOOK = " -> throws.IndexOutOfBoundsException";
    private static final String WRONG = " -> throws.IllegalArgumentException";
    private static final String[] FULL = {
        "put(0, 0, 0, 0)", "put(0, 1, 1, 1)", "put(0, 2, 2, 2)", "put(0, 3, 3, 3)",
        "put(0, 4, 4, 4)", "put(0, 5, 5, 5)", "put(0, 6, 6, 6)", "put(0, 7, 7, 7)"};

    private SpansTest() {
    }

    public static void main(String[] args) {
        newObject();
        putting();
        adding();
        more();
        changing();
        changingIf();
        taking();
        takingIf();
        takingNote();
        drawing();
        clearing();
        pouring();
        copying();
        sifting();
        Script.end();
    }

    private static String[] afterFull(String... more) {
        String[] all = new String[FULL.length + more.length];
        System.arraycopy(FULL, 0, all, 0, FULL.length);
        System.arraycopy(more, 0, all, FULL.length, more.length);
        return all;
    }

    /** What is thrown by a call whose book, from, to come first; then come words of the rest. */
    private static void wrongSpans(String name, String rest) {
        Script.run(name + ", wrong book or span",
            "put(0, 3, 7, 5)",
            name + "(-1, 3, 7" + rest + ")" + NO_BOOK,
            name + "(3, 3, 7" + rest + ")" + NO_BOOK,
            name + "(3, 4, 3" + rest + ")" + NO_BOOK,
            name + "(0, -1, 7" + rest + ")" + WRONG,
            name + "(0, 7, 6" + rest + ")" + WRONG,
            name + "(0, 3, 100" + rest + ")" + WRONG,
            name + "(0, 100, 100" + rest + ")" + WRONG,
            name + "(0, -2147483648, 2147483647" + rest + ")" + WRONG,
            "text(0, false) -> \"3-7:5\"");
    }

    /** What is thrown by a call whose book, from, to, note come first. */
    private static void wrongNotes(String name) {
        wrongSpans(name, ", 5");
        Script.run(name + ", wrong note",
            "put(0, 3, 7, 5)",
            name + "(0, 3, 7, -1)" + WRONG,
            name + "(0, 3, 7, 100)" + WRONG,
            name + "(0, 2, 7, -1)" + WRONG,
            name + "(3, 3, 7, 100)" + NO_BOOK,
            "text(0, false) -> \"3-7:5\"");
    }

    private static void newObject() {
        Script.run("1 a new object",
            "text(0, false) -> \"\"", "text(1, false) -> \"\"", "text(2, true) -> \"\"",
            "house(0) -> 0", "house(1) -> -1", "house(2) -> 0", "house(3) -> 0", "house(4) -> 0",
            "isSound() -> true");
    }

    private static void putting() {
        Script.run("2 put",
            "put(0, 3, 7, 5) -> -1",
            "put(0, 3, 7, 6) -> 5",
            "put(1, 3, 7, 9) -> -1",
            "put(0, 0, 0, 0) -> -1",
            "put(0, 99, 99, 99) -> -1",
            "put(0, 2, 7, 1) -> -1",
            "put(0, 4, 7, 1) -> -1",
            "text(0, false) -> \"0-0:0 2-7:1 3-7:6 4-7:1 99-99:99\"",
            "text(1, false) -> \"3-7:9\"",
            "text(2, false) -> \"\"");
        Script.run("2 put, full", afterFull(
            "put(0, 8, 8, 8) -> -9",
            "put(0, 7, 7, 70) -> 7",
            "put(1, 8, 8, 8) -> -1",
            "put(0, 8, 7, 8)" + WRONG,
            "put(0, 8, 8, 100)" + WRONG,
            "take(0, 0, 0) -> 0",
            "put(0, 8, 8, 8) -> -1",
            "house(3) -> 1"));
        wrongNotes("put");
    }

    private static void adding() {
        Script.run("3 add",
            "add(0, 3, 7, 5) -> -1",
            "add(0, 3, 7, 6) -> 5",
            "add(0, 3, 6, 0) -> -1",
            "add(0, 3, 6, 1) -> 0",
            "text(0, false) -> \"3-6:0 3-7:5\"");
        Script.run("3 add, full", afterFull(
            "add(0, 8, 8, 8) -> -9",
            "add(0, 7, 7, 70) -> 7",
            "text(0, true) -> \"7-7:7 6-6:6 5-5:5 4-4:4 3-3:3 2-2:2 1-1:1 0-0:0\""));
        wrongNotes("add");
    }

    private static void more() {
        Script.run("4 more",
            "more(0, 3, 7, 60) -> 60",
            "more(0, 3, 7, 39) -> 99",
            "more(0, 3, 7, 1) -> 0",
            "more(0, 3, 7, 99) -> 99",
            "more(0, 3, 7, 99) -> 98",
            "more(0, 3, 7, 0) -> 98",
            "more(0, 0, 1, 0) -> 0",
            "text(0, false) -> \"0-1:0 3-7:98\"");
        Script.run("4 more, full", afterFull(
            "more(0, 8, 8, 8) -> -9", "more(0, 7, 7, 98) -> 5", "noteOf(0, 7, 7, -1) -> 5"));
        wrongNotes("more");
    }

    private static void changing() {
        Script.run("5 change",
            "put(0, 3, 7, 5)",
            "change(0, 3, 7, 8) -> 5",
            "change(0, 3, 7, 0) -> 8",
            "change(0, 3, 8, 9) -> -1",
            "change(1, 3, 7, 9) -> -1",
            "text(0, false) -> \"3-7:0\"", "text(1, false) -> \"\"");
        Script.run("5 change, full", afterFull("change(0, 8, 8, 8) -> -1", "house(3) -> 0"));
        wrongNotes("change");
    }

    private static void changingIf() {
        Script.run("6 changeIf",
            "put(0, 3, 7, 5)",
            "changeIf(0, 3, 7, 4, 8) -> 0",
            "changeIf(0, 3, 8, 5, 8) -> 0",
            "changeIf(1, 3, 7, 5, 8) -> 0",
            "text(0, false) -> \"3-7:5\"",
            "changeIf(0, 3, 7, 5, 8) -> 1",
            "changeIf(0, 3, 7, 8, 8) -> 1",
            "text(0, false) -> \"3-7:8\"",
            "changeIf(0, 3, 7, -1, 8)" + WRONG,
            "changeIf(0, 3, 8, -1, 8)" + WRONG,
            "changeIf(0, 3, 7, 100, 8)" + WRONG,
            "changeIf(0, 3, 7, 8, -1)" + WRONG,
            "changeIf(0, 3, 7, 8, 100)" + WRONG,
            "changeIf(0, 3, 7, 7, 100)" + WRONG,
            "changeIf(3, 3, 7, 7, 100)" + NO_BOOK);
        wrongSpans("changeIf", ", 5, 6");
    }

    private static void taking() {
        Script.run("7 take",
            "put(0, 3, 7, 5)", "put(0, 3, 8, 0)", "put(1, 3, 7, 6)",
            "take(0, 3, 6) -> -1",
            "take(0, 3, 7) -> 5",
            "take(0, 3, 7) -> -1",
            "text(0, false) -> \"3-8:0\"",
            "take(0, 3, 8) -> 0",
            "text(0, false) -> \"\"", "text(1, false) -> \"3-7:6\"");
        wrongSpans("take", "");
    }

    private static void takingIf() {
        Script.run("8 takeIf",
            "put(0, 3, 7, 5)",
            "takeIf(0, 3, 7, 4) -> 0",
            "takeIf(0, 3, 8, 5) -> 0",
            "text(0, false) -> \"3-7:5\"",
            "takeIf(0, 3, 7, 5) -> 1",
            "takeIf(0, 3, 7, 5) -> 0",
            "text(0, false) -> \"\"");
        wrongNotes("takeIf");
    }

    private static void takingNote() {
        Script.run("9 takeNote",
            "put(0, 5, 9, 4)", "put(0, 6, 7, 4)", "put(0, 0, 99, 4)", "put(0, 1, 2, 3)",
            "takeNote(0, 4) -> 1",
            "text(0, false) -> \"1-2:3 5-9:4 0-99:4\"",
            "takeNote(0, 2) -> 0",
            "takeNote(1, 4) -> 0",
            "takeNote(0, 4) -> 1",
            "takeNote(0, 4) -> 1",
            "takeNote(0, 4) -> 0",
            "text(0, false) -> \"1-2:3\"",
            "takeNote(0, 3) -> 1", "text(0, false) -> \"\"",
            "takeNote(0, -1)" + WRONG, "takeNote(0, 100)" + WRONG,
            "takeNote(3, 100)" + NO_BOOK, "takeNote(-1, 3)" + NO_BOOK);
    }

    private static void drawing() {
        Script.run("10 draw",
            "put(0, 5, 9, 4)", "put(0, 6, 7, 4)", "put(0, 0, 0, 4)",
            "draw(0, true) -> 905",
            "draw(0, false) -> 0",
            "text(0, false) -> \"6-7:4\"",
            "draw(0, true) -> 706",
            "draw(0, true) -> -1", "draw(0, false) -> -1", "draw(1, false) -> -1",
            "draw(3, true)" + NO_BOOK, "draw(-1, false)" + NO_BOOK);
    }

    private static void clearing() {
        Script.run("11 clear",
            "clear(0) -> 0",
            "put(0, 5, 9, 4)", "put(0, 6, 7, 4)", "put(1, 6, 7, 4)",
            "clear(0) -> 2", "clear(0) -> 0",
            "text(0, false) -> \"\"", "text(1, false) -> \"6-7:4\"",
            "clear(3)" + NO_BOOK, "clear(-1)" + NO_BOOK);
    }

    private static void pouring() {
        Script.run("12 pour",
            "put(0, 1, 2, 1)", "put(0, 3, 4, 2)",
            "put(1, 0, 2, 6)", "put(1, 3, 4, 7)", "put(1, 5, 6, 8)",
            "pour(0, 1) -> 2",
            "text(0, false) -> \"0-2:6 1-2:1 3-4:7 5-6:8\"",
            "text(1, false) -> \"0-2:6 3-4:7 5-6:8\"",
            "pour(0, 1) -> 0", "pour(0, 0) -> 0", "pour(0, 2) -> 0",
            "text(0, false) -> \"0-2:6 1-2:1 3-4:7 5-6:8\"",
            "pour(0, 3)" + NO_BOOK, "pour(-1, 0)" + NO_BOOK, "pour(3, 3)" + NO_BOOK,
            "pour(0, -1)" + NO_BOOK);
        Script.run("12 pour, full", afterFull(
            "put(1, 6, 6, 60)", "put(1, 8, 8, 80)",
            "pour(0, 1) -> -9", "pour(1, 0) -> -9",
            "noteOf(0, 6, 6, -1) -> 6",
            "take(0, 0, 0)",
            "pour(0, 1) -> 1",
            "text(0, true) -> \"8-8:80 7-7:7 6-6:60 5-5:5 4-4:4 3-3:3 2-2:2 1-1:1\"",
            "pour(0, 1) -> 0", "pour(1, 0) -> 6", "areSame(0, 1) -> true"));
    }

    private static void copying() {
        Script.run("13 copy",
            "put(0, 1, 2, 1)", "put(0, 3, 4, 2)",
            "put(1, 1, 2, 9)", "put(1, 0, 9, 7)", "put(1, 5, 5, 6)",
            "copy(0, 1) -> 3",
            "text(0, false) -> \"1-2:9 5-5:6 0-9:7\"",
            "text(1, false) -> \"1-2:9 5-5:6 0-9:7\"",
            "put(1, 1, 2, 3)",
            "text(0, false) -> \"1-2:9 5-5:6 0-9:7\"",
            "copy(0, 0) -> 3",
            "text(0, false) -> \"1-2:9 5-5:6 0-9:7\"",
            "copy(0, 2) -> 0",
            "text(0, false) -> \"\"",
            "copy(0, 3)" + NO_BOOK, "copy(-1, 0)" + NO_BOOK, "copy(3, 0)" + NO_BOOK,
            "copy(0, -1)" + NO_BOOK);
        Script.run("13 copy, full", afterFull("copy(2, 0) -> 8", "areSame(0, 2) -> true"));
    }

    private static void sifting() {
        Script.run("14 sift",
            "put(0, 1, 2, 1)", "put(0, 3, 4, 2)", "put(0, 5, 6, 3)", "put(0, 7, 8, 4)",
            "put(1, 3, 4, 90)", "put(1, 7, 8, 4)", "put(1, 0, 9, 4)",
            "copy(2, 0)",
            "sift(0, 1, false) -> 2",
            "text(0, false) -> \"1-2:1 5-6:3\"",
            "sift(0, 1, false) -> 0",
            "sift(2, 1, true) -> 2",
            "text(2, false) -> \"3-4:2 7-8:4\"",
            "sift(2, 1, true) -> 0",
            "text(1, false) -> \"3-4:90 7-8:4 0-9:4\"",
            "sift(2, 0, true) -> 2", "sift(2, 0, true) -> 0", "sift(0, 2, false) -> 0",
            "text(0, false) -> \"1-2:1 5-6:3\"",
            "sift(0, 2, true) -> 2",
            "sift(1, 1, true)" + WRONG, "sift(1, 1, false)" + WRONG,
            "sift(3, 3, false)" + NO_BOOK, "sift(0, 3, true)" + NO_BOOK,
            "sift(-1, 0, true)" + NO_BOOK, "sift(-1, -1, true)" + NO_BOOK);
        Script.run("14 sift, full", afterFull(
            "copy(1, 0)", "sift(0, 1, true) -> 0", "sift(0, 1, false) -> 8"));
    }
}
