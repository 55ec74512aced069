/**
 * The boundaries in the "Description" and in the "Returns" sentences of spans, books and what is
 * asked of them: promises 1 to 14 and 27 to 45, on both sides of each.
 */
public final class EdgesTest {
    private static final String[] SEVEN = {
        "put(0, 0, 0, 0)", "put(0, 1, 1, 1)", "put(0, 2, 2, 2)", "put(0, 3, 3, 3)",
        "put(0, 4, 4, 4)", "put(0, 5, 5, 5)", "put(0, 6, 6, 6)"};
    private static final String[] EIGHT = Edge.join(SEVEN, "put(0, 7, 7, 7)");

    private EdgesTest() {
    }

    public static void main(String[] args) {
        newObject();
        spans();
        atMostEight();
        noteZeroIsThere();
        restByHundred();
        toldNotes();
        drawn();
        cleared();
        poured();
        copied();
        sifted();
        firstAndLast();
        same();
        neighbours();
        texts();
        apart();
        sets();
        held();
        depths();
        rooms();
        linked();
        Script.end();
    }

    private static void newObject() {
        for (int book = 0; book <= 2; book++) {
            String b = String.valueOf(book);
            Script.run("1 three empty books", "text(" + b + ", false) -> \"\"",
                "ofBook(" + b + ", 0) -> 0", "ofBook(" + b + ", 1) -> -1", "ofBook(" + b + ", 2) -> -1",
                "ofBook(" + b + ", 3) -> -1", "ofBook(" + b + ", 4) -> -1", "ofBook(" + b + ", 5) -> 0",
                "draw(" + b + ", true) -> -1", "draw(" + b + ", false) -> -1", "clear(" + b + ") -> 0",
                "most(" + b + ") -> 0", "chosen(" + b + ", 0) -> -1", "choice(" + b + ", 0) -> 0",
                "unheld(" + b + ", 0) -> 0", "holders(" + b + ", 0) -> 0", "holders(" + b + ", 99) -> 0",
                "deepest(" + b + ", false) -> 0", "deepest(" + b + ", true) -> -1",
                "rooms(" + b + ") -> 0", "roomOf(" + b + ", 0, 0) -> -1", "links(" + b + ", 0, 0) -> -1",
                "links(" + b + ", 0, 99) -> -1", "link(" + b + ", 0, 0, 0) -> -1",
                "isSound() -> true", "house(3) -> 0");
        }
        Script.run("1 no part, no hand", "house(0) -> 0", "house(1) -> -1", "house(2) -> 0",
            "house(3) -> 0", "house(4) -> 0", "areSame(0, 1) -> true", "areSame(1, 2) -> true");
    }

    private static void spans() {
        Script.run("a span holds the places from FROM to TO, both too", "put(0, 3, 5, 0)",
            "holders(0, 2) -> 0", "holders(0, 3) -> 1", "holders(0, 4) -> 1", "holders(0, 5) -> 1",
            "holders(0, 6) -> 0");
        Script.run("a span of one place", "put(0, 99, 99, 0)", "put(0, 0, 0, 0)",
            "holders(0, 0) -> 1", "holders(0, 1) -> 0", "holders(0, 98) -> 0", "holders(0, 99) -> 2");
        Script.run("a span of all places", "put(0, 0, 99, 0)", "holders(0, 0) -> 1",
            "holders(0, 99) -> 1", "ofBook(0, 1) -> 9900");
        Script.run("the least and the greatest code", "put(1, 0, 0, 5)", "ofBook(1, 1) -> 0",
            "ofBook(1, 2) -> 0", "ofBook(1, 5) -> 5", "put(1, 99, 99, 0)", "ofBook(1, 2) -> 9999");
        Script.run("in sequence by TO, of several by FROM", "put(0, 1, 6, 0)", "put(0, 6, 6, 0)",
            "put(0, 0, 6, 0)", "put(0, 0, 7, 0)", "put(0, 5, 5, 0)",
            "text(0, false) -> \"5-5:0 0-6:0 1-6:0 6-6:0 0-7:0\"");
        Script.run("no span is twice in a book", "put(0, 1, 6, 0) -> -1", "put(0, 1, 6, 0) -> 0",
            "add(0, 1, 6, 3) -> 0", "more(0, 1, 6, 3) -> 3", "text(0, false) -> \"1-6:3\"");
        Script.run("a book is apart from the others", "put(0, 1, 6, 0)", "put(2, 1, 6, 9)",
            "text(0, false) -> \"1-6:0\"", "text(1, false) -> \"\"", "text(2, false) -> \"1-6:9\"");
    }

    private static void atMostEight() {
        Script.run("2 put, the eighth and the ninth", Edge.join(SEVEN, "put(0, 7, 7, 7) -> -1",
            "put(0, 8, 8, 8) -> -9", "put(0, 0, 99, 8) -> -9", "put(0, 7, 7, 70) -> 7",
            "put(0, 0, 0, 9) -> 0", "ofBook(0, 0) -> 8", "house(3) -> 2",
            "take(0, 3, 3)", "put(0, 8, 8, 8) -> -1", "put(0, 3, 3, 3) -> -9"));
        Script.run("3 add, the eighth and the ninth", Edge.join(SEVEN, "add(0, 7, 7, 7) -> -1",
            "add(0, 8, 8, 8) -> -9", "add(0, 7, 7, 70) -> 7", "add(0, 0, 0, 9) -> 0",
            "text(0, false) -> \"0-0:0 1-1:1 2-2:2 3-3:3 4-4:4 5-5:5 6-6:6 7-7:7\"",
            "house(3) -> 1", "draw(0, false)", "add(0, 8, 8, 8) -> -1", "add(0, 0, 0, 0) -> -9"));
        Script.run("4 more, the eighth and the ninth", Edge.join(SEVEN, "more(0, 7, 7, 0) -> 0",
            "more(0, 8, 8, 8) -> -9", "more(0, 8, 8, 0) -> -9", "more(0, 7, 7, 70) -> 70",
            "house(3) -> 2", "draw(0, true)", "more(0, 8, 8, 8) -> 8", "more(0, 9, 9, 9) -> -9"));
        Script.run("17 partPut, the eighth and the ninth", Edge.join(SEVEN, "part(0, 6, 9)",
            "partPut(7, 7, 7) -> -1", "partPut(8, 8, 8) -> -9", "partPut(7, 7, 8) -> 7",
            "house(3) -> 1"));
        Script.run("at most eight in each book", Edge.join(EIGHT, "put(1, 8, 8, 8) -> -1",
            "put(2, 8, 8, 8) -> -1", "house(0) -> 10", "copy(1, 0) -> 8", "put(1, 8, 8, 8) -> -9",
            "copy(2, 1) -> 8", "put(2, 8, 8, 8) -> -9", "house(0) -> 24"));
        Script.run("a full book tells no -9 where none would come", Edge.join(EIGHT,
            "change(0, 8, 8, 8) -> -1", "changeIf(0, 8, 8, 8, 8) -> 0", "take(0, 8, 8) -> -1",
            "takeIf(0, 8, 8, 8) -> 0", "takeNote(0, 8) -> 0", "house(3) -> 0"));
    }

    /** A NOTE of 0 is not the NONE of a span that is not there. */
    private static void noteZeroIsThere() {
        Script.run("2 to 5, 7, 28, note 0 and none", "put(0, 1, 2, 0) -> -1", "put(0, 1, 2, 0) -> 0",
            "add(0, 1, 2, 5) -> 0", "add(0, 1, 3, 0) -> -1", "more(0, 1, 2, 0) -> 0",
            "more(0, 1, 4, 0) -> 0", "has(0, 1, 4) -> true", "change(0, 1, 2, 0) -> 0",
            "change(0, 1, 1, 0) -> -1", "has(0, 1, 1) -> false", "noteOf(0, 1, 2, 7) -> 0",
            "noteOf(0, 1, 1, 7) -> 7", "take(0, 1, 2) -> 0", "take(0, 1, 2) -> -1",
            "text(0, false) -> \"1-3:0 1-4:0\"");
        Script.run("6 and 8, note 0 of a span that is not there", "changeIf(0, 1, 2, 0, 5) -> 0",
            "takeIf(0, 1, 2, 0) -> 0", "put(0, 1, 2, 0)", "changeIf(0, 1, 2, 0, 0) -> 1",
            "takeIf(0, 1, 2, 0) -> 1", "takeIf(0, 1, 2, 0) -> 0");
        Script.run("9 and 30, note 0 in a book without spans", "takeNote(0, 0) -> 0",
            "hasNote(0, 0) -> false", "put(0, 1, 2, 0)", "hasNote(0, 0) -> true",
            "takeNote(0, 0) -> 1", "hasNote(0, 0) -> false", "takeNote(0, 0) -> 0");
    }

    private static void restByHundred() {
        Script.run("4 more, the rest by 100", "put(0, 1, 2, 98)", "more(0, 1, 2, 1) -> 99",
            "more(0, 1, 2, 0) -> 99", "more(0, 1, 2, 1) -> 0", "more(0, 1, 2, 99) -> 99",
            "more(0, 1, 2, 2) -> 1", "change(0, 1, 2, 99)", "more(0, 1, 2, 99) -> 98",
            "noteOf(0, 1, 2, -1) -> 98", "more(0, 3, 4, 99) -> 99", "noteOf(0, 3, 4, -1) -> 99");
    }

    private static void toldNotes() {
        for (String note : new String[] {"49", "51", "0", "99"}) {
            Script.run("6 and 8, another note than the told one", "put(0, 1, 2, 50)",
                "changeIf(0, 1, 2, " + note + ", 7) -> 0", "takeIf(0, 1, 2, " + note + ") -> 0",
                "takeNote(0, " + note + ") -> 0", "hasNote(0, " + note + ") -> false",
                "text(0, false) -> \"1-2:50\"");
        }
        Script.run("9 takeNote, the first in sequence of several", "put(0, 9, 9, 5)",
            "put(0, 0, 9, 5)", "put(0, 4, 8, 6)", "takeNote(0, 5) -> 1",
            "text(0, false) -> \"4-8:6 9-9:5\"", "takeNote(0, 5) -> 1", "takeNote(0, 5) -> 0",
            "text(0, false) -> \"4-8:6\"");
    }

    private static void drawn() {
        Script.run("10 draw, of one and of none", "put(0, 0, 0, 5)", "draw(0, true) -> 0",
            "draw(0, true) -> -1", "put(0, 0, 0, 5)", "draw(0, false) -> 0", "draw(0, false) -> -1",
            "house(3) -> 0");
        Script.run("10 draw, of eight", Edge.join(EIGHT, "draw(0, true) -> 707",
            "draw(0, false) -> 0", "ofBook(0, 0) -> 6", "ofBook(0, 1) -> 101", "ofBook(0, 2) -> 606"));
    }

    private static void cleared() {
        Script.run("11 clear, of none, one and eight", Edge.join(EIGHT, "put(1, 4, 4, 4)",
            "clear(2) -> 0", "clear(1) -> 1", "clear(0) -> 8", "clear(0) -> 0", "house(0) -> 0"));
    }

    private static void poured() {
        Script.run("12 pour, eight and nine", Edge.join(SEVEN, "put(1, 8, 8, 80)",
            "put(1, 0, 0, 90)", "pour(0, 1) -> 1", "noteOf(0, 0, 0, -1) -> 90",
            "ofBook(0, 0) -> 8", "put(1, 9, 9, 9)", "put(1, 0, 0, 91)", "pour(0, 1) -> -9",
            "noteOf(0, 0, 0, -1) -> 90", "house(3) -> 1"));
        Script.run("12 pour, two too many", Edge.join(SEVEN, "put(1, 8, 8, 8)", "put(1, 9, 9, 9)",
            "pour(0, 1) -> -9", "pour(1, 0) -> -9", "draw(0, true)", "pour(0, 1) -> 2",
            "ofBook(0, 0) -> 8"));
        Script.run("12 pour, all eight are there", Edge.join(EIGHT, "copy(1, 0)",
            "change(1, 7, 7, 77)", "pour(0, 1) -> 0", "noteOf(0, 7, 7, -1) -> 77",
            "pour(0, 0) -> 0", "house(3) -> 0", "pour(2, 0) -> 8", "areSame(0, 2) -> true"));
        Script.run("12 pour, of none", Edge.join(EIGHT, "pour(0, 1) -> 0", "pour(1, 2) -> 0",
            "pour(1, 1) -> 0", "ofBook(0, 0) -> 8", "ofBook(1, 0) -> 0"));
    }

    private static void copied() {
        Script.run("13 copy, of none and of eight", Edge.join(EIGHT, "copy(1, 0) -> 8",
            "copy(1, 0) -> 8", "copy(0, 0) -> 8", "areSame(0, 1) -> true", "copy(0, 2) -> 0",
            "copy(2, 2) -> 0", "text(0, false) -> \"\"", "ofBook(1, 0) -> 8", "house(3) -> 0"));
        Script.run("13 copy, of fewer", Edge.join(EIGHT, "put(1, 9, 9, 9)", "copy(0, 1) -> 1",
            "text(0, false) -> \"9-9:9\"", "draw(0, true) -> 909", "text(1, false) -> \"9-9:9\""));
    }

    private static void sifted() {
        Script.run("14 sift, by none", Edge.join(EIGHT, "sift(0, 1, false) -> 0",
            "ofBook(0, 0) -> 8", "sift(0, 1, true) -> 8", "ofBook(0, 0) -> 0",
            "sift(0, 1, true) -> 0", "sift(0, 1, false) -> 0"));
        Script.run("14 sift, with whatever note", "put(0, 1, 2, 5)", "put(0, 1, 3, 6)",
            "put(1, 1, 2, 50)", "put(1, 2, 3, 6)", "copy(2, 0)", "sift(0, 1, false) -> 1",
            "text(0, false) -> \"1-3:6\"", "sift(2, 1, true) -> 1", "text(2, false) -> \"1-2:5\"",
            "text(1, false) -> \"1-2:50 2-3:6\"");
        Script.run("14 sift, by all eight", Edge.join(EIGHT, "copy(1, 0)", "sift(0, 1, true) -> 0",
            "sift(0, 1, false) -> 8", "sift(1, 0, false) -> 0", "sift(1, 0, true) -> 8"));
    }

    private static void firstAndLast() {
        Script.run("27 ofBook, of none, one and two", "ofBook(0, 0) -> 0", "ofBook(0, 1) -> -1",
            "ofBook(0, 2) -> -1", "ofBook(0, 3) -> -1", "ofBook(0, 4) -> -1", "ofBook(0, 5) -> 0",
            "put(0, 1, 2, 0)", "ofBook(0, 0) -> 1", "ofBook(0, 1) -> 201", "ofBook(0, 2) -> 201",
            "ofBook(0, 3) -> 0", "ofBook(0, 4) -> 0", "ofBook(0, 5) -> 201", "put(0, 0, 2, 9)",
            "ofBook(0, 1) -> 200", "ofBook(0, 2) -> 201", "ofBook(0, 3) -> 9", "ofBook(0, 4) -> 0");
        Script.run("27 ofBook, check, a digit being 1 where just one has a 1",
            "put(0, 63, 63, 63)", "ofBook(0, 5) -> 6372", "change(0, 63, 63, 64)",
            "ofBook(0, 5) -> 6299", "put(0, 0, 0, 0)", "ofBook(0, 5) -> 6299", "put(0, 0, 0, 99)",
            "ofBook(0, 5) -> 6398");
        Script.run("27 ofBook, of eight", Edge.join(EIGHT, "ofBook(0, 0) -> 8", "ofBook(0, 2) -> 707",
            "ofBook(0, 4) -> 7", "ofBook(0, 5) -> 2816"));
    }

    private static void same() {
        Script.run("35 areSame, without spans", "areSame(0, 0) -> true", "areSame(0, 2) -> true",
            "put(2, 0, 0, 0)", "areSame(0, 2) -> false", "areSame(2, 0) -> false",
            "areSame(2, 2) -> true", "put(0, 0, 0, 1)", "areSame(0, 2) -> false",
            "put(0, 0, 0, 0)", "areSame(0, 2) -> true");
        Script.run("35 areSame, of eight", Edge.join(EIGHT, "copy(1, 0)", "change(1, 7, 7, 8)",
            "areSame(0, 1) -> false", "change(1, 7, 7, 7)", "areSame(0, 1) -> true",
            "change(1, 0, 0, 1)", "areSame(0, 1) -> false", "take(1, 0, 0)", "areSame(0, 1) -> false",
            "put(1, 0, 1, 0)", "areSame(0, 1) -> false"));
    }

    /** Codes 702, 703 and 704 are next to one another; 800 is the next one behind 707. */
    private static void neighbours() {
        String[] book = {"put(0, 2, 7, 20)", "put(0, 3, 7, 30)", "put(0, 4, 7, 40)"};
        Script.run("31 near, codes next to its own", Edge.join(book, "near(0, 3, 7, 0) -> 702",
            "near(0, 3, 7, 1) -> 703", "near(0, 3, 7, 2) -> 703", "near(0, 3, 7, 3) -> 704",
            "near(0, 3, 7, 4) -> 30", "near(0, 3, 7, 5) -> 30", "take(0, 3, 7)",
            "near(0, 3, 7, 0) -> 702", "near(0, 3, 7, 1) -> 702", "near(0, 3, 7, 2) -> 704",
            "near(0, 3, 7, 3) -> 704", "near(0, 3, 7, 4) -> 20", "near(0, 3, 7, 5) -> 40"));
        Script.run("31 near, without such a span", Edge.join(book, "near(0, 2, 7, 0) -> -1",
            "near(0, 2, 7, 1) -> 702", "near(0, 1, 7, 1) -> -1", "near(0, 1, 7, 4) -> -1",
            "near(0, 4, 7, 3) -> -1", "near(0, 4, 7, 2) -> 704", "near(0, 5, 7, 2) -> -1",
            "near(0, 5, 7, 5) -> -1", "near(1, 3, 7, 0) -> -1", "near(1, 3, 7, 1) -> -1",
            "near(1, 3, 7, 2) -> -1", "near(1, 3, 7, 3) -> -1", "near(1, 3, 7, 4) -> -1",
            "near(1, 3, 7, 5) -> -1"));
        Script.run("31 near, note 0 and none", "put(0, 0, 0, 0)", "near(0, 0, 0, 4) -> 0",
            "near(0, 0, 0, 5) -> 0", "near(0, 0, 0, 1) -> 0", "near(0, 0, 0, 0) -> -1",
            "near(0, 0, 1, 5) -> -1", "near(0, 0, 1, 4) -> 0", "near(0, 0, 1, 0) -> 0");
        Script.run("32 many, codes next to its own", Edge.join(book, "many(0, 3, 7, 0) -> 1",
            "many(0, 3, 7, 1) -> 2", "many(0, 3, 7, 2) -> 2", "many(0, 3, 7, 3) -> 1",
            "many(0, 1, 7, 1) -> 0", "many(0, 2, 7, 0) -> 0", "many(0, 5, 7, 2) -> 0",
            "many(0, 4, 7, 3) -> 0", "take(0, 3, 7)", "many(0, 3, 7, 0) -> 1",
            "many(0, 3, 7, 1) -> 1", "many(0, 3, 7, 2) -> 1", "many(0, 3, 7, 3) -> 1"));
        Script.run("33 between, codes next to its own", Edge.join(book, "between(0, 2, 7, 4, 7) -> 3",
            "between(0, 3, 7, 4, 7) -> 2", "between(0, 2, 7, 3, 7) -> 2",
            "between(0, 3, 7, 3, 7) -> 1", "between(0, 4, 7, 3, 7) -> -9",
            "between(0, 5, 7, 0, 8) -> 0", "between(0, 0, 8, 7, 7) -> -9",
            "between(0, 0, 0, 1, 7) -> 0", "between(0, 0, 0, 99, 99) -> 3",
            "between(0, 0, 0, 0, 0) -> 0", "between(0, 99, 99, 98, 99) -> -9", "house(3) -> 3"));
    }

    private static void texts() {
        Script.run("34 text, of none, one and two", "text(0, false) -> \"\"", "text(0, true) -> \"\"",
            "put(0, 2, 4, 0)", "text(0, false) -> \"2-4:0\"", "text(0, true) -> \"2-4:0\"",
            "put(0, 0, 3, 7)", "text(0, false) -> \"0-3:7 2-4:0\"", "text(0, true) -> \"2-4:0 0-3:7\"");
        Script.run("34 text, the least and the greatest", "put(0, 0, 0, 0)", "put(0, 99, 99, 99)",
            "put(0, 9, 10, 9)", "put(0, 10, 10, 10)",
            "text(0, false) -> \"0-0:0 9-10:9 10-10:10 99-99:99\"");
    }

    private static void apart() {
        Script.run("36 most, FROM at TO of the one chosen last, and above it", "put(0, 0, 4, 0)",
            "put(0, 4, 5, 0)", "most(0) -> 1", "chosen(0, 0) -> 400", "chosen(0, 1) -> -1",
            "put(0, 5, 6, 0)", "most(0) -> 2", "chosen(0, 1) -> 605", "chosen(0, 2) -> -1");
        Script.run("36 most, of none, one and eight", Edge.join(EIGHT, "most(0) -> 8",
            "chosen(0, 0) -> 0", "chosen(0, 7) -> 707", "chosen(0, 8) -> -1", "most(1) -> 0",
            "chosen(1, 0) -> -1", "put(1, 99, 99, 0)", "most(1) -> 1", "chosen(1, 0) -> 9999",
            "chosen(1, 1) -> -1"));
        Script.run("36 most, an inner span hides its outer one", "put(0, 0, 99, 0)",
            "put(0, 98, 98, 0)", "most(0) -> 1", "chosen(0, 0) -> 9898", "put(0, 99, 99, 0)",
            "most(0) -> 2", "chosen(0, 1) -> 9999");
        Script.run("38 choice, ends that touch and ends that do not", "put(0, 0, 4, 0)",
            "put(0, 4, 8, 0)", "put(0, 5, 9, 0)", "choice(0, 3) -> -1", "choice(0, 5) -> 2",
            "choice(0, 6) -> -1", "choice(0, 7) -> -1", "choice(0, 0) -> 0", "choice(0, 4) -> 1");
        Script.run("38 choice, one within another", "put(0, 0, 99, 0)", "put(0, 50, 50, 0)",
            "choice(0, 3) -> -1", "choice(0, 1) -> 1", "choice(0, 2) -> 1");
        Script.run("38 choice, just the first and the last meet", "put(0, 0, 1, 0)",
            "put(0, 3, 4, 0)", "put(0, 6, 7, 0)", "choice(0, 7) -> 3", "put(0, 1, 9, 0)",
            "choice(0, 9) -> -1", "choice(0, 15) -> -1");
    }

    private static void sets() {
        Script.run("39 unheld, a TO that is FROM or TO of another, and next to it",
            "put(0, 4, 4, 0)", "put(0, 4, 8, 0)", "put(0, 0, 4, 0)", "put(0, 0, 3, 0)",
            "put(0, 5, 9, 0)", "text(0, false) -> \"0-3:0 0-4:0 4-4:0 4-8:0 5-9:0\"",
            "unheld(0, 4) -> 2", "unheld(0, 2) -> 2", "unheld(0, 1) -> 3", "unheld(0, 8) -> 3",
            "unheld(0, 16) -> 4", "unheld(0, 0) -> 5", "unheld(0, 31) -> 0");
        Script.run("39 unheld, of one", "put(0, 0, 99, 0)", "unheld(0, 0) -> 1", "unheld(0, 1) -> 0");
        Script.run("39 unheld, of eight", Edge.join(EIGHT, "unheld(0, 0) -> 8", "unheld(0, 128) -> 7",
            "unheld(0, 127) -> 1", "unheld(0, 255) -> 0"));
        Script.run("40 holders, of eight", Edge.join(EIGHT, "holders(0, 0) -> 1", "holders(0, 7) -> 128",
            "holders(0, 8) -> 0", "clear(0)", "holders(0, 0) -> 0"));
    }

    private static void held() {
        Script.run("40 holders, ranks of the time", "put(0, 5, 9, 0)", "holders(0, 5) -> 1",
            "put(0, 0, 4, 0)", "holders(0, 5) -> 2", "put(0, 0, 99, 0)", "holders(0, 5) -> 6",
            "take(0, 0, 4)", "holders(0, 5) -> 3", "holders(0, 4) -> 2", "holders(0, 10) -> 2");
    }

    private static void depths() {
        Script.run("41 deepest, ends that touch and ends that do not", "put(0, 0, 4, 0)",
            "put(0, 5, 8, 0)", "deepest(0, false) -> 1", "deepest(0, true) -> 0",
            "put(0, 4, 4, 0)", "deepest(0, false) -> 2", "deepest(0, true) -> 4");
        Script.run("41 deepest, the smallest of several places", "put(0, 1, 2, 0)",
            "put(0, 3, 5, 0)", "put(0, 2, 9, 0)", "deepest(0, false) -> 2", "deepest(0, true) -> 2",
            "take(0, 1, 2)", "deepest(0, true) -> 3", "put(0, 5, 9, 0)", "deepest(0, false) -> 3",
            "deepest(0, true) -> 5");
        Script.run("41 deepest, of several places the later ones in sequence first",
            "put(0, 1, 4, 0)", "put(0, 5, 6, 0)", "put(0, 3, 9, 0)", "put(0, 0, 1, 0)",
            "deepest(0, false) -> 2", "deepest(0, true) -> 1", "take(0, 0, 1)",
            "deepest(0, true) -> 3");
        Script.run("41 deepest, of one at either end", "put(0, 99, 99, 0)", "deepest(0, true) -> 99",
            "deepest(0, false) -> 1", "put(1, 0, 0, 0)", "deepest(1, true) -> 0",
            "deepest(1, false) -> 1", "deepest(2, true) -> -1", "deepest(2, false) -> 0");
        Script.run("41 deepest, of eight", Edge.join(EIGHT, "deepest(0, false) -> 1",
            "clear(0)", "put(0, 0, 9, 0)", "put(0, 1, 9, 0)", "put(0, 2, 9, 0)", "put(0, 3, 9, 0)",
            "put(0, 4, 9, 0)", "put(0, 5, 9, 0)", "put(0, 6, 9, 0)", "deepest(0, false) -> 7",
            "deepest(0, true) -> 6", "put(0, 9, 10, 0)", "deepest(0, false) -> 8",
            "deepest(0, true) -> 9"));
    }

    private static void rooms() {
        Script.run("42 rooms, ends that touch and ends that do not", "put(0, 0, 4, 0)",
            "put(0, 5, 8, 0)", "rooms(0) -> 1", "roomOf(0, 5, 8) -> 0", "put(0, 4, 4, 0)",
            "rooms(0) -> 2", "roomOf(0, 4, 4) -> 1", "roomOf(0, 5, 8) -> 0");
        Script.run("42 rooms, of none, one and eight", "rooms(0) -> 0", "put(0, 0, 99, 0)",
            "rooms(0) -> 1", "put(0, 1, 99, 0)", "put(0, 2, 99, 0)", "put(0, 3, 99, 0)",
            "put(0, 4, 99, 0)", "put(0, 5, 99, 0)", "put(0, 6, 99, 0)", "rooms(0) -> 7",
            "roomOf(0, 6, 99) -> 6", "put(0, 99, 99, 0)", "rooms(0) -> 8", "roomOf(0, 99, 99) -> 7",
            "roomOf(0, 0, 99) -> 0");
        Script.run("43 roomOf, of those with the same FROM by rising TO", "put(0, 3, 9, 0)",
            "put(0, 3, 4, 0)", "put(0, 3, 3, 0)", "roomOf(0, 3, 3) -> 0", "roomOf(0, 3, 4) -> 1",
            "roomOf(0, 3, 9) -> 2", "put(0, 4, 4, 0)", "roomOf(0, 4, 4) -> 0", "put(0, 5, 5, 0)",
            "roomOf(0, 5, 5) -> 0", "put(0, 5, 6, 0)", "roomOf(0, 5, 6) -> 1", "rooms(0) -> 3");
        Script.run("43 roomOf, by rising FROM, not in sequence", "put(0, 0, 9, 0)", "put(0, 1, 2, 0)",
            "put(0, 2, 5, 0)", "roomOf(0, 0, 9) -> 0", "roomOf(0, 1, 2) -> 1", "roomOf(0, 2, 5) -> 2",
            "take(0, 0, 9)", "roomOf(0, 1, 2) -> 0", "roomOf(0, 2, 5) -> 1", "roomOf(0, 0, 9) -> -1");
    }

    private static void linked() {
        Script.run("44 links, p at b and above b", "put(0, 0, 4, 0)", "put(0, 5, 9, 0)",
            "links(0, 0, 4) -> 1", "links(0, 0, 5) -> 2", "links(0, 4, 5) -> 2", "links(0, 5, 5) -> 1",
            "links(0, 4, 4) -> 1", "links(0, 0, 9) -> 2", "links(0, 9, 9) -> 1",
            "links(0, 0, 10) -> -1", "links(0, 10, 10) -> -1");
        Script.run("44 links, a gap of one place", "put(0, 0, 4, 0)", "put(0, 6, 9, 0)",
            "links(0, 0, 9) -> -1", "link(0, 0, 9, 0) -> -1", "links(0, 4, 6) -> -1",
            "links(0, 5, 5) -> -1", "links(0, 6, 9) -> 1", "put(0, 5, 5, 0)", "links(0, 0, 9) -> 3",
            "link(0, 0, 9, 0) -> 400", "link(0, 0, 9, 1) -> 505", "link(0, 0, 9, 2) -> 906",
            "link(0, 0, 9, 3) -> -1");
        Script.run("44 links, a first place that none holds", "put(0, 1, 99, 0)", "links(0, 0, 99) -> -1",
            "links(0, 0, 0) -> -1", "links(0, 1, 99) -> 1", "links(0, 99, 99) -> 1",
            "link(0, 0, 99, 0) -> -1", "link(0, 1, 1, 0) -> 9901");
        Script.run("44 links, a last place that none holds", "put(0, 0, 98, 0)", "links(0, 0, 99) -> -1",
            "links(0, 99, 99) -> -1", "links(0, 0, 98) -> 1", "link(0, 0, 99, 0) -> -1");
        Script.run("44 links, of eight", Edge.join(EIGHT, "links(0, 0, 7) -> 8", "links(0, 0, 6) -> 7",
            "links(0, 0, 8) -> -1", "link(0, 0, 7, 0) -> 0", "link(0, 0, 7, 7) -> 707",
            "link(0, 0, 7, 8) -> -1", "link(0, 7, 7, 0) -> 707", "link(0, 7, 7, 1) -> -1"));
        Script.run("45 link, the greatest TO, of several the greatest FROM", "put(0, 0, 5, 0)",
            "put(0, 0, 6, 0)", "put(0, 5, 5, 0)", "put(0, 3, 6, 0)", "link(0, 0, 6, 0) -> 600",
            "link(0, 2, 6, 0) -> 600", "link(0, 3, 6, 0) -> 603", "link(0, 5, 5, 0) -> 603",
            "put(0, 7, 8, 0)", "put(0, 6, 8, 0)", "link(0, 0, 8, 1) -> 807", "link(0, 6, 8, 0) -> 806",
            "links(0, 0, 8) -> 2");
    }
}
