/**
 * The "Throws" sentences and the lines of the arguments, promise by promise: the last value that is
 * taken on each side, with its answer, and the first that is refused.
 */
public final class RefusedTest {
    private static final String INDEX = Edge.INDEX;
    private static final String ARGUMENT = Edge.ARGUMENT;
    private static final String STATE = Edge.STATE;
    private static final String LEAST = Edge.LEAST;
    private static final String MOST = Edge.MOST;

    /** Books 0 and 2 alike, codes 0, 707, 9900 and 9999; book 1 empty. */
    private static final String[] ALIKE = {
        "put(0, 0, 0, 10)", "put(0, 7, 7, 40)", "put(0, 0, 99, 20)", "put(0, 99, 99, 30)",
        "put(2, 0, 0, 10)", "put(2, 7, 7, 40)", "put(2, 0, 99, 20)", "put(2, 99, 99, 30)"};
    private static final String[] PARTED = Edge.join(ALIKE, "part(0, -1, -1)");
    private static final String[] HELD = Edge.join(ALIKE, "hand(0)", "next() -> 0");

    private RefusedTest() {
    }

    public static void main(String[] args) {
        booksOfChanges();
        booksOfQuestions();
        bothBooks();
        spansOfChanges();
        spansOfQuestions();
        notesOfChanges();
        notesOfQuestions();
        boundsOfPart();
        boundsOfNarrow();
        stretches();
        questions();
        counts();
        sameBook();
        withoutPart();
        withoutHand();
        firstNamed();
        exceptionsAheadOfRefusal();
        thrownChangesNothing();
        Script.end();
    }

    // ---- IndexOutOfBoundsException: if there is no such BOOK

    private static void book(String promise, String call, String answer, String... before) {
        Edge.of(promise + ", no such book", call, Edge.join(ALIKE, before))
            .taken("0", answer).taken("2", answer)
            .refused(INDEX, "-1", "3", LEAST, MOST);
    }

    private static void booksOfChanges() {
        book("2 put", "put(?, 7, 7, 5)", "40");
        book("3 add", "add(?, 7, 7, 5)", "40");
        book("4 more", "more(?, 7, 7, 5)", "45");
        book("5 change", "change(?, 7, 7, 5)", "40");
        book("6 changeIf", "changeIf(?, 7, 7, 40, 5)", "1");
        book("7 take", "take(?, 7, 7)", "40");
        book("8 takeIf", "takeIf(?, 7, 7, 40)", "1");
        book("9 takeNote", "takeNote(?, 40)", "1");
        book("10 draw", "draw(?, true)", "9999");
        book("11 clear", "clear(?)", "4");
        book("15 part", "part(?, 0, 99)", "4");
        book("23 hand", "hand(?)", "4");
    }

    private static void booksOfQuestions() {
        book("27 ofBook", "ofBook(?, 0)", "4");
        book("28 noteOf", "noteOf(?, 7, 7, 1)", "40");
        book("29 has", "has(?, 7, 7)", "true");
        book("30 hasNote", "hasNote(?, 40)", "true");
        book("31 near", "near(?, 7, 7, 1)", "707");
        book("32 many", "many(?, 7, 7, 1)", "2");
        book("33 between", "between(?, 0, 0, 7, 7)", "2");
        book("34 text", "text(?, false)", "\"0-0:10 7-7:40 0-99:20 99-99:30\"");
        book("36 most", "most(?)", "3");
        book("37 chosen", "chosen(?, 2)", "9999");
        book("38 choice", "choice(?, 11)", "3");
        book("39 unheld", "unheld(?, 2)", "2");
        book("40 holders", "holders(?, 7)", "6");
        book("41 deepest", "deepest(?, true)", "0");
        book("42 rooms", "rooms(?)", "2");
        book("43 roomOf", "roomOf(?, 0, 99)", "1");
        book("44 links", "links(?, 0, 99)", "1");
        book("45 link", "link(?, 0, 99, 0)", "9900");
    }

    private static void bothBooks() {
        book("12 pour, the book", "pour(?, 1)", "1", "put(1, 3, 3, 3)");
        book("12 pour, the other", "pour(1, ?)", "4");
        book("13 copy, the book", "copy(?, 1)", "1", "put(1, 3, 3, 3)");
        book("13 copy, the other", "copy(1, ?)", "4");
        book("14 sift, the book", "sift(?, 1, false)", "1", "put(1, 7, 7, 0)");
        book("14 sift, the other", "sift(1, ?, true)", "1", "put(1, 7, 7, 0)", "put(1, 3, 3, 3)");
        book("35 areSame, the book", "areSame(?, 2)", "true");
        book("35 areSame, the other", "areSame(0, ?)", "true");
        for (String name : new String[] {"pour(", "copy(", "areSame("}) {
            Script.run(name + "both wrong", name + "-1, 3) -> " + INDEX, name + "3, -1) -> " + INDEX);
        }
    }

    // ---- IllegalArgumentException: if that is no SPAN

    /** The answers are those for 0-0, 0-99, 7-7, 99-99, which are there, and 6-7, which is not. */
    private static void span(String promise, String call, String[] before, String... answers) {
        Edge.of(promise + ", no span", call, before)
            .taken("0, 0", answers[0]).taken("0, 99", answers[1]).taken("7, 7", answers[2])
            .taken("99, 99", answers[3]).taken("6, 7", answers[4])
            .refused(ARGUMENT, "-1, 0", "-1, 99", "-1, -1", LEAST + ", 0", LEAST + ", " + LEAST)
            .refused(ARGUMENT, "7, 6", "1, 0", "99, 98", "0, -1", "99, 0", "0, " + LEAST)
            .refused(ARGUMENT, "0, 100", "99, 100", "100, 100", "0, " + MOST, MOST + ", " + MOST)
            .refused(ARGUMENT, "-1, 100", LEAST + ", " + MOST, MOST + ", " + LEAST, "100, 7");
    }

    private static void spansOfChanges() {
        span("2 put", "put(0, ?, 5)", ALIKE, "10", "20", "40", "30", "-1");
        span("3 add", "add(0, ?, 5)", ALIKE, "10", "20", "40", "30", "-1");
        span("4 more", "more(0, ?, 5)", ALIKE, "15", "25", "45", "35", "5");
        span("5 change", "change(0, ?, 5)", ALIKE, "10", "20", "40", "30", "-1");
        span("6 changeIf", "changeIf(0, ?, 40, 5)", ALIKE, "0", "0", "1", "0", "0");
        span("6 changeIf", "changeIf(0, ?, 10, 5)", ALIKE, "1", "0", "0", "0", "0");
        span("7 take", "take(0, ?)", ALIKE, "10", "20", "40", "30", "-1");
        span("8 takeIf", "takeIf(0, ?, 30)", ALIKE, "0", "0", "0", "1", "0");
        span("17 partPut", "partPut(?, 5)", PARTED, "10", "20", "40", "30", "-1");
        span("18 partTake", "partTake(?)", PARTED, "10", "20", "40", "30", "-1");
    }

    private static void spansOfQuestions() {
        span("28 noteOf", "noteOf(0, ?, 1)", ALIKE, "10", "20", "40", "30", "1");
        span("29 has", "has(0, ?)", ALIKE, "true", "true", "true", "true", "false");
        span("31 near", "near(0, ?, 1)", ALIKE, "0", "9900", "707", "9999", "0");
        span("32 many", "many(0, ?, 1)", ALIKE, "1", "3", "2", "4", "1");
        span("33 between, the one", "between(0, ?, 99, 99)", ALIKE, "4", "2", "3", "1", "3");
        span("33 between, the other one", "between(0, 0, 0, ?)", ALIKE, "1", "3", "2", "4", "1");
        span("43 roomOf", "roomOf(0, ?)", ALIKE, "0", "1", "0", "0", "-1");
    }

    // ---- IllegalArgumentException: if a note is not 0 to 99

    private static void note(String promise, String call, String[] before, String least, String most) {
        Edge.of(promise + ", note not 0 to 99", call, before)
            .taken("0", least).taken("99", most)
            .refused(ARGUMENT, "-1", "100", LEAST, MOST);
    }

    private static void notesOfChanges() {
        note("2 put, there", "put(0, 7, 7, ?)", ALIKE, "40", "40");
        note("2 put, not there", "put(0, 6, 7, ?)", ALIKE, "-1", "-1");
        note("3 add, there", "add(0, 7, 7, ?)", ALIKE, "40", "40");
        note("3 add, not there", "add(0, 6, 7, ?)", ALIKE, "-1", "-1");
        note("4 more, there", "more(0, 7, 7, ?)", ALIKE, "40", "39");
        note("4 more, not there", "more(0, 6, 7, ?)", ALIKE, "0", "99");
        note("5 change, there", "change(0, 7, 7, ?)", ALIKE, "40", "40");
        note("5 change, not there", "change(0, 6, 7, ?)", ALIKE, "-1", "-1");
        note("6 changeIf, old", "changeIf(0, 7, 7, ?, 5)", ALIKE, "0", "0");
        note("6 changeIf, old, not there", "changeIf(0, 6, 7, ?, 5)", ALIKE, "0", "0");
        note("6 changeIf, note", "changeIf(0, 7, 7, 40, ?)", ALIKE, "1", "1");
        note("6 changeIf, note, old another", "changeIf(0, 7, 7, 41, ?)", ALIKE, "0", "0");
        note("8 takeIf, there", "takeIf(0, 7, 7, ?)", ALIKE, "0", "0");
        note("8 takeIf, not there", "takeIf(0, 6, 7, ?)", ALIKE, "0", "0");
        note("9 takeNote", "takeNote(0, ?)", ALIKE, "0", "0");
        note("17 partPut, there", "partPut(7, 7, ?)", PARTED, "40", "40");
        note("17 partPut, not there", "partPut(6, 7, ?)", PARTED, "-1", "-1");
        note("25 renote", "renote(?)", HELD, "10", "10");
        String[] ends = Edge.join(ALIKE, "change(0, 7, 7, 0)", "change(0, 99, 99, 99)");
        Script.run("6 changeIf, old at both ends", Edge.join(ends,
            "changeIf(0, 7, 7, 0, 1) -> 1", "changeIf(0, 99, 99, 99, 1) -> 1"));
        Script.run("8 takeIf, note at both ends", Edge.join(ends,
            "takeIf(0, 7, 7, 0) -> 1", "takeIf(0, 99, 99, 99) -> 1"));
        note("9 takeNote, note at both ends", "takeNote(0, ?)", ends, "1", "1");
    }

    private static void notesOfQuestions() {
        note("30 hasNote", "hasNote(0, ?)", ALIKE, "false", "false");
        note("30 hasNote", "hasNote(0, ?)",
            Edge.join(ALIKE, "change(0, 7, 7, 0)", "change(0, 99, 99, 99)"), "true", "true");
        Edge.of("28 noteOf, other not -1 to 99, there", "noteOf(0, 7, 7, ?)", ALIKE)
            .taken("-1", "40").taken("99", "40").refused(ARGUMENT, "-2", "100", LEAST, MOST);
        Edge.of("28 noteOf, other not -1 to 99, not there", "noteOf(0, 6, 7, ?)", ALIKE)
            .taken("-1", "-1").taken("0", "0").taken("99", "99")
            .refused(ARGUMENT, "-2", "100", LEAST, MOST);
    }

    // ---- IllegalArgumentException: bounds and stretches

    private static void boundsOfPart() {
        Edge.of("15 part, low, high NONE", "part(0, ?, -1)", ALIKE)
            .taken("-1", "4").taken("0", "4").taken("99", "2")
            .refused(ARGUMENT, "-2", "100", LEAST, MOST);
        Edge.of("15 part, low, high 7", "part(0, ?, 7)", ALIKE)
            .taken("-1", "2").taken("0", "2").taken("7", "1")
            .refused(ARGUMENT, "-2", "8", "99", "100", LEAST, MOST);
        Edge.of("15 part, high, low NONE", "part(0, -1, ?)", ALIKE)
            .taken("-1", "4").taken("0", "1").taken("99", "4")
            .refused(ARGUMENT, "-2", "100", LEAST, MOST);
        Edge.of("15 part, high, low 7", "part(0, 7, ?)", ALIKE)
            .taken("-1", "3").taken("7", "1").taken("99", "3")
            .refused(ARGUMENT, "-2", "6", "0", "100", LEAST, MOST);
        Edge.of("15 part, low and high", "part(0, ?)", ALIKE)
            .taken("0, 0", "1").taken("99, 99", "2").taken("0, 99", "4").taken("98, 99", "2")
            .refused(ARGUMENT, "1, 0", "99, 98", "-2, -2", "100, 100", "-2, 100", "100, -2");
    }

    private static void boundsOfNarrow() {
        Edge.of("16 narrow, low", "narrow(?, 7)", PARTED)
            .taken("0", "2").taken("7", "1")
            .refused(ARGUMENT, "-1", "8", "100", LEAST, MOST);
        Edge.of("16 narrow, high", "narrow(7, ?)", PARTED)
            .taken("7", "1").taken("99", "3")
            .refused(ARGUMENT, "6", "-1", "100", LEAST, MOST);
        Edge.of("16 narrow, low and high", "narrow(?)", PARTED)
            .taken("0, 0", "1").taken("99, 99", "2").taken("0, 99", "4")
            .refused(ARGUMENT, "-1, -1", "-1, 0", "99, 100", "100, 100", "1, 0", "99, 98");
    }

    private static void stretch(String promise, String call, String... answers) {
        Edge.of(promise + ", no stretch", call, ALIKE)
            .taken("0, 0", answers[0]).taken("0, 99", answers[1]).taken("99, 99", answers[2])
            .taken("7, 7", answers[3])
            .refused(ARGUMENT, "-1, 0", "-1, -1", "-1, 99", LEAST + ", 0", LEAST + ", " + LEAST)
            .refused(ARGUMENT, "7, 6", "1, 0", "99, 98", "0, -1", "0, " + LEAST)
            .refused(ARGUMENT, "0, 100", "99, 100", "100, 100", "0, " + MOST, MOST + ", " + MOST);
    }

    private static void stretches() {
        stretch("44 links", "links(0, ?)", "1", "1", "1", "1");
        stretch("45 link", "link(0, ?, 0)", "9900", "9900", "9999", "9900");
        Edge.of("40 holders, place not 0 to 99", "holders(0, ?)", ALIKE)
            .taken("0", "5").taken("99", "12").refused(ARGUMENT, "-1", "100", LEAST, MOST);
    }

    // ---- IllegalArgumentException: what, how, k, set

    private static void questions() {
        int check = 10 + (707 ^ 40) + (9900 ^ 20) + (9999 ^ 30);
        Edge.of("27 ofBook, what not 0 to 5", "ofBook(0, ?)", ALIKE)
            .taken("0", "4").taken("5", String.valueOf(check))
            .refused(ARGUMENT, "-1", "6", LEAST, MOST);
        Edge.of("21 ofPart, what not 0 to 5", "ofPart(?)", PARTED)
            .taken("0", "0").taken("5", "9999").refused(ARGUMENT, "-1", "6", LEAST, MOST);
        Edge.of("31 near, how not 0 to 5", "near(0, 7, 7, ?)", ALIKE)
            .taken("0", "0").taken("5", "40").refused(ARGUMENT, "-1", "6", LEAST, MOST);
        Edge.of("32 many, how not 0 to 3", "many(0, 7, 7, ?)", ALIKE)
            .taken("0", "1").taken("3", "2").refused(ARGUMENT, "-1", "4", LEAST, MOST);
        Edge.of("46 house, what not 0 to 4", "house(?)", Edge.join(ALIKE, "knock()"))
            .taken("0", "8").taken("4", "1").refused(ARGUMENT, "-1", "5", LEAST, MOST);
    }

    private static void counts() {
        Edge.of("37 chosen, k below 0", "chosen(0, ?)", ALIKE)
            .taken("0", "0").taken(MOST, "-1").refused(ARGUMENT, "-1", LEAST);
        Edge.of("37 chosen, k below 0, no spans", "chosen(1, ?)", ALIKE)
            .taken("0", "-1").taken(MOST, "-1").refused(ARGUMENT, "-1", LEAST);
        Edge.of("45 link, k below 0", "link(0, 0, 99, ?)", ALIKE)
            .taken("0", "9900").taken(MOST, "-1").refused(ARGUMENT, "-1", LEAST);
        Edge.of("45 link, k below 0, no links", "link(1, 0, 99, ?)", ALIKE)
            .taken("0", "-1").taken(MOST, "-1").refused(ARGUMENT, "-1", LEAST);
        Edge.of("38 choice, a set of four spans", "choice(0, ?)", ALIKE)
            .taken("0", "0").taken("8", "1").taken("15", "-1")
            .refused(ARGUMENT, "-1", "16", "17", "31", "256", "1073741824", LEAST, MOST);
        Edge.of("38 choice, a set of no spans", "choice(1, ?)", ALIKE)
            .taken("0", "0").refused(ARGUMENT, "-1", "1", "2", LEAST, MOST);
        Edge.of("39 unheld, a set of four spans", "unheld(0, ?)", ALIKE)
            .taken("0", "4").taken("8", "2").taken("15", "0")
            .refused(ARGUMENT, "-1", "16", "17", "31", "256", "1073741824", LEAST, MOST);
        Edge.of("39 unheld, a set of no spans", "unheld(1, ?)", ALIKE)
            .taken("0", "0").refused(ARGUMENT, "-1", "1", "2", LEAST, MOST);
        manySpans();
    }

    /** Of n spans each set up to that of all is taken, and the one of the next rank refused. */
    private static void manySpans() {
        String[] before = {};
        for (int n = 1; n <= 8; n++) {
            before = Edge.join(before, "put(2, " + n + ", " + n + ", 0) -> -1");
            Edge.of("38 choice, a set of " + n + " spans", "choice(2, ?)", before)
                .taken(String.valueOf((1 << n) - 1), String.valueOf(n))
                .refused(ARGUMENT, String.valueOf(1 << n), String.valueOf((1 << n) + 1), "-1");
            Edge.of("39 unheld, a set of " + n + " spans", "unheld(2, ?)", before)
                .taken(String.valueOf((1 << n) - 1), "0")
                .refused(ARGUMENT, String.valueOf(1 << n), String.valueOf((1 << n) + 1), "-1");
        }
    }

    private static void sameBook() {
        Edge.of("14 sift, both the same", "sift(?, true)", ALIKE)
            .taken("0, 1", "4").taken("1, 0", "0").taken("0, 2", "0").taken("2, 1", "4")
            .refused(ARGUMENT, "0, 0", "1, 1", "2, 2");
        Edge.of("14 sift, both the same", "sift(?, false)", ALIKE)
            .taken("0, 1", "0").taken("1, 2", "0").taken("0, 2", "4")
            .refused(ARGUMENT, "0, 0", "1, 1", "2, 2");
        Edge.of("14 sift, no such book, both the same", "sift(?, true)", ALIKE)
            .refused(INDEX, "3, 3", "-1, -1", "-1, 3", MOST + ", " + MOST);
    }

    // ---- IllegalStateException: if there is no PART, or no HAND

    private static void part(String promise, String call, String answer) {
        Script.run(promise + ", no part", Edge.join(ALIKE, call + " -> " + STATE,
            "hand(0)", call + " -> " + STATE, "part(0, -1, -1)", call + " -> " + answer));
        Script.run(promise + ", the part is gone", Edge.join(PARTED, "copy(0, 0) -> 4",
            call + " -> " + STATE));
        Script.run(promise + ", the part stays", Edge.join(PARTED, "copy(1, 0) -> 4",
            "copy(2, 1) -> 4", call + " -> " + answer));
    }

    private static void withoutPart() {
        part("16 narrow", "narrow(0, 99)", "4");
        part("17 partPut", "partPut(7, 7, 5)", "40");
        part("18 partTake", "partTake(7, 7)", "40");
        part("19 partDraw", "partDraw(true)", "9999");
        part("20 partClear", "partClear()", "4");
        part("21 ofPart", "ofPart(3)", "4");
        part("22 partText", "partText()", "\"0-0:10 7-7:40 0-99:20 99-99:30\"");
    }

    private static void withoutHand() {
        Script.run("24 next, no hand", Edge.join(PARTED, "next() -> " + STATE,
            "hand(0)", "next() -> 0"));
        Script.run("25 renote, no hand", Edge.join(PARTED, "renote(5) -> " + STATE,
            "hand(0)", "renote(5) -> -9", "next()", "renote(5) -> 10"));
        Script.run("26 takeOut, no hand", Edge.join(PARTED, "takeOut() -> " + STATE,
            "hand(0)", "takeOut() -> -9", "next()", "takeOut() -> 3"));
        Script.run("24 to 26, a lost hand is one", Edge.join(HELD, "copy(0, 0)",
            "next() -> -9", "renote(5) -> -9", "takeOut() -> -9"));
    }

    // ---- if several exceptions apply, the one that is named first; exceptions ahead of -9

    private static void firstNamed() {
        String[] wrongBoth = {
            "put(3, 7, 6, 100)", "put(-1, 7, 7, -1)", "add(3, 7, 6, 100)", "add(3, 7, 7, 100)",
            "more(3, 7, 6, 100)", "more(-1, 7, 7, 100)", "change(3, 7, 6, 5)", "change(3, 7, 7, -1)",
            "changeIf(3, 7, 6, 1, 1)", "changeIf(3, 7, 7, -1, 1)", "changeIf(3, 7, 7, 1, 100)",
            "take(3, 7, 6)", "takeIf(3, 7, 6, 1)", "takeIf(3, 7, 7, 100)", "takeNote(3, 100)",
            "part(3, 7, 6)", "part(3, -2, -1)", "part(-1, -1, 100)", "ofBook(3, 6)", "ofBook(-1, -1)",
            "noteOf(3, 7, 6, 1)", "noteOf(3, 7, 7, 100)", "has(3, 7, 6)", "hasNote(3, 100)",
            "near(3, 7, 6, 1)", "near(3, 7, 7, 6)", "many(3, 7, 6, 1)", "many(3, 7, 7, 4)"};
        for (String call : wrongBoth) {
            Script.run("the exception named first", Edge.join(ALIKE, call + " -> " + INDEX));
        }
        String[] wrongBothToo = {
            "between(3, 7, 6, 7, 7)", "between(3, 7, 7, 7, 6)", "chosen(3, -1)", "choice(3, -1)",
            "choice(3, 16)", "unheld(3, -1)", "unheld(-1, 16)", "holders(3, 100)", "holders(-1, -1)",
            "roomOf(3, 7, 6)", "links(3, 7, 6)", "links(3, 0, 100)", "link(3, 7, 6, 0)",
            "link(3, 7, 7, -1)", "sift(3, 3, true)", "sift(-1, -1, false)"};
        for (String call : wrongBothToo) {
            Script.run("the exception named first", Edge.join(ALIKE, call + " -> " + INDEX));
        }
        String[] wrongAndNone = {
            "narrow(7, 6)", "narrow(-1, 6)", "narrow(0, 100)", "partPut(7, 6, 1)", "partPut(7, 7, 100)",
            "partTake(7, 6)", "partTake(0, 100)", "ofPart(-1)", "ofPart(6)", "renote(-1)", "renote(100)"};
        for (String call : wrongAndNone) {
            Script.run("the exception named first", Edge.join(ALIKE, call + " -> " + ARGUMENT));
        }
    }

    private static void exceptionsAheadOfRefusal() {
        String[] full = Edge.join(ALIKE, "put(0, 1, 1, 1)", "put(0, 2, 2, 2)", "put(0, 3, 3, 3)",
            "put(0, 4, 4, 4)");
        Script.run("2 to 4, exceptions ahead of -9", Edge.join(full,
            "put(0, 5, 5, 100) -> " + ARGUMENT, "put(0, 5, 4, 5) -> " + ARGUMENT,
            "put(0, 5, 5, 5) -> -9",
            "add(0, 5, 5, 100) -> " + ARGUMENT, "add(0, 5, 4, 5) -> " + ARGUMENT,
            "add(0, 5, 5, 5) -> -9",
            "more(0, 5, 5, 100) -> " + ARGUMENT, "more(0, 5, 4, 5) -> " + ARGUMENT,
            "more(0, 5, 5, 5) -> -9", "house(3) -> 3"));
        Script.run("12 pour, exceptions ahead of -9", Edge.join(full, "put(1, 6, 6, 6)",
            "pour(0, 3) -> " + INDEX, "pour(0, 1) -> -9"));
        Script.run("16 and 17, exceptions ahead of -9", Edge.join(ALIKE, "part(0, 7, 50)",
            "narrow(6, 5) -> " + ARGUMENT, "narrow(-1, 7) -> " + ARGUMENT,
            "narrow(7, 100) -> " + ARGUMENT, "narrow(6, 7) -> -9", "narrow(7, 51) -> -9",
            "partPut(6, 6, 100) -> " + ARGUMENT, "partPut(7, 6, 1) -> " + ARGUMENT,
            "partPut(6, 6, 1) -> -9", "house(3) -> 3"));
        Script.run("25 renote, exceptions ahead of -9", Edge.join(ALIKE, "hand(0)",
            "renote(100) -> " + ARGUMENT, "renote(99) -> -9", "next()", "takeOut()",
            "renote(-1) -> " + ARGUMENT, "renote(0) -> -9", "clear(0)",
            "renote(100) -> " + ARGUMENT, "renote(99) -> -9", "house(3) -> 3"));
        Script.run("33 between, exceptions ahead of -9", Edge.join(ALIKE,
            "between(0, 7, 7, 0, -1) -> " + ARGUMENT, "between(0, 7, 100, 0, 0) -> " + ARGUMENT,
            "between(3, 7, 7, 0, 0) -> " + INDEX, "between(0, 7, 7, 0, 0) -> -9", "house(3) -> 1"));
    }

    /** The hand's place cannot be seen but by going on with it. */
    private static void thrownChangesNothing() {
        String[] thrown = {
            "put(0, 6, 6, 100)", "put(0, 6, 5, 1)", "add(0, 6, 6, -1)", "more(0, 6, 6, 100)",
            "change(0, 0, 0, 100)", "changeIf(0, 0, 0, 10, 100)", "take(0, 0, 100)",
            "takeIf(0, 0, 0, 100)", "takeNote(0, 100)", "sift(0, 0, false)", "sift(0, 0, true)",
            "part(0, 7, 6)", "narrow(7, 6)", "partPut(6, 6, 100)", "partTake(7, 6)", "renote(100)"};
        for (String call : thrown) {
            goesOn(call + " -> " + ARGUMENT);
        }
        String[] noBook = {"draw(3, true)", "clear(3)", "pour(0, 3)", "copy(0, 3)", "copy(3, 0)",
            "sift(0, 3, true)", "part(3, 0, 0)", "hand(3)", "hand(-1)"};
        for (String call : noBook) {
            goesOn(call + " -> " + INDEX);
        }
    }

    private static void goesOn(String line) {
        Script.run("an exception changes nothing", Edge.join(HELD, "part(0, 7, 99)", line,
            "house(2) -> 1", "renote(11) -> 10", "next() -> 707", "takeOut() -> 3", line,
            "next() -> 9900", "next() -> 9999", line, "next() -> -1",
            "partText() -> \"0-99:20 99-99:30\"", "house(3) -> 0"));
    }
}
