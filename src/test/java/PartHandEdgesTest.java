/**
 * The boundaries in the "Description" and in the "Returns" sentences of the part and the hand:
 * promises 15 to 26, on both sides of each.
 */
public final class PartHandEdgesTest {
    /** Codes 404, 500, 505, 600, 606, 700, 707: for each TO from 5 to 7 the least and the greatest FROM. */
    private static final String[] BOOK = {
        "put(0, 4, 4, 14)", "put(0, 0, 5, 5)", "put(0, 5, 5, 15)", "put(0, 0, 6, 6)",
        "put(0, 6, 6, 16)", "put(0, 0, 7, 7)", "put(0, 7, 7, 17)"};
    private static final String[] THREE = {
        "put(0, 1, 4, 1)", "put(0, 2, 6, 2)", "put(0, 5, 9, 3)", "hand(0) -> 3"};

    private PartHandEdgesTest() {
    }

    public static void main(String[] args) {
        lowAndHigh();
        lowAndHighAtTheEnds();
        partOfNoneAndAll();
        partStays();
        partIsGone();
        narrowed();
        putWithin();
        takenWithin();
        drawnWithin();
        clearedWithin();
        handOfNoneAndAll();
        renoted();
        takenOut();
        lostAndNot();
        copiesLose();
        refusalsChangeNothing();
        Script.end();
    }

    private static void lowAndHigh() {
        Script.run("15 part, TO not below LOW", Edge.join(BOOK, "part(0, 5, -1) -> 6",
            "ofPart(4) -> 500", "part(0, 6, -1) -> 4", "ofPart(4) -> 600", "part(0, 7, -1) -> 2",
            "ofPart(4) -> 700", "part(0, 8, -1) -> 0", "ofPart(4) -> -1", "part(0, 4, -1) -> 7"));
        Script.run("15 part, TO not above HIGH", Edge.join(BOOK, "part(0, -1, 3) -> 0",
            "ofPart(5) -> -1", "part(0, -1, 4) -> 1", "ofPart(5) -> 404", "part(0, -1, 5) -> 3",
            "ofPart(5) -> 505", "part(0, -1, 6) -> 5", "ofPart(5) -> 606", "part(0, -1, 7) -> 7"));
        Script.run("15 part, LOW and HIGH", Edge.join(BOOK, "part(0, 6, 6) -> 2",
            "partText() -> \"0-6:6 6-6:16\"", "part(0, 5, 6) -> 4", "part(0, 6, 7) -> 4",
            "part(0, 5, 5) -> 2", "part(0, 8, 99) -> 0", "part(0, 0, 3) -> 0"));
        Script.run("15 part, LOW and HIGH that are NONE", Edge.join(BOOK, "part(0, -1, -1) -> 7",
            "ofPart(1) -> -1", "ofPart(2) -> -1", "ofPart(4) -> 404", "ofPart(5) -> 707",
            "part(0, 0, -1) -> 7", "ofPart(1) -> 0", "part(0, -1, 99) -> 7", "ofPart(2) -> 99"));
    }

    private static void lowAndHighAtTheEnds() {
        String[] ends = {"put(0, 0, 0, 0)", "put(0, 0, 1, 1)", "put(0, 1, 1, 2)", "put(0, 98, 98, 3)",
            "put(0, 0, 99, 4)", "put(0, 99, 99, 5)"};
        Script.run("15 part, LOW and HIGH at the last places", Edge.join(ends, "part(0, 99, -1) -> 2",
            "partText() -> \"0-99:4 99-99:5\"", "part(0, 99, 99) -> 2", "part(0, 98, 98) -> 1",
            "part(0, -1, 98) -> 4", "part(0, -1, 0) -> 1", "partText() -> \"0-0:0\"",
            "part(0, 0, 0) -> 1", "part(0, 1, 1) -> 2", "partText() -> \"0-1:1 1-1:2\"",
            "part(0, 1, -1) -> 5", "part(0, 2, 97) -> 0"));
    }

    private static void partOfNoneAndAll() {
        Script.run("15 to 22, the part of a book without spans", "part(2, -1, -1) -> 0",
            "ofPart(0) -> 2", "ofPart(3) -> 0", "ofPart(4) -> -1", "ofPart(5) -> -1",
            "partText() -> \"\"", "partDraw(true) -> -1", "partDraw(false) -> -1", "partClear() -> 0",
            "partTake(0, 0) -> -1", "narrow(0, 99) -> 0", "partPut(0, 0, 0) -> -1",
            "ofPart(3) -> 1", "ofPart(4) -> 0", "ofPart(5) -> 0", "partDraw(false) -> 0",
            "ofPart(4) -> -1", "house(3) -> 0");
        Script.run("15 to 22, a part without spans of a book with some", Edge.join(BOOK,
            "part(0, 8, 99) -> 0", "ofPart(4) -> -1", "ofPart(5) -> -1", "partText() -> \"\"",
            "partDraw(true) -> -1", "partDraw(false) -> -1", "partClear() -> 0",
            "partTake(7, 7) -> -1", "ofBook(0, 0) -> 7", "part(0, 0, 3) -> 0",
            "partDraw(true) -> -1", "partDraw(false) -> -1", "partClear() -> 0",
            "partTake(4, 4) -> -1", "ofBook(0, 0) -> 7"));
    }

    private static void partStays() {
        Script.run("15 a part stays, whatever comes or goes", Edge.join(BOOK, "part(0, 6, 7) -> 4",
            "clear(0) -> 7", "ofPart(3) -> 0", "put(0, 6, 6, 1)", "put(0, 5, 5, 1)", "put(0, 8, 8, 1)",
            "ofPart(3) -> 1", "put(1, 7, 7, 2)", "pour(0, 1)", "ofPart(3) -> 2", "sift(0, 1, false) -> 1",
            "partText() -> \"6-6:1\"", "draw(0, true) -> 808", "takeNote(0, 1)", "partText() -> \"6-6:1\"",
            "hand(0)", "next()", "takeOut()", "partText() -> \"\"", "ofPart(1) -> 6", "ofPart(2) -> 7",
            "house(1) -> 0"));
        Script.run("15 another part is made", Edge.join(BOOK, "part(0, 6, 7) -> 4",
            "part(1, -1, 3) -> 0", "house(1) -> 1", "ofPart(0) -> 1", "ofPart(1) -> -1",
            "ofPart(2) -> 3", "ofPart(3) -> 0"));
    }

    /** copy() into the book of the part, and into each other one. */
    private static void partIsGone() {
        for (int i = 0; i < 27; i++) {
            int book = i / 9;
            int into = i / 3 % 3;
            String copy = "copy(" + into + ", " + i % 3 + ") -> 0";
            Script.run("15 a part over " + book + ", " + copy, "part(" + book + ", 5, 6)", copy,
                "house(1) -> " + (book == into ? -1 : book));
        }
        Script.run("15 a part that is gone does not come back", Edge.join(BOOK, "part(0, 6, 6)",
            "copy(1, 0) -> 7", "partText() -> \"0-6:6 6-6:16\"", "copy(0, 1) -> 7", "house(1) -> -1",
            "copy(0, 1) -> 7", "house(1) -> -1", "part(0, 7, 7) -> 2", "house(1) -> 0"));
    }

    private static void narrowed() {
        Script.run("16 narrow, low at LOW and below it", Edge.join(BOOK, "part(0, 5, -1)",
            "narrow(4, 99) -> -9", "ofPart(1) -> 5", "ofPart(2) -> -1", "narrow(5, 99) -> 6",
            "narrow(6, 99) -> 4", "narrow(5, 99) -> -9", "house(3) -> 2"));
        Script.run("16 narrow, high at HIGH and above it", Edge.join(BOOK, "part(0, -1, 6)",
            "narrow(0, 7) -> -9", "ofPart(1) -> -1", "ofPart(2) -> 6", "narrow(0, 6) -> 5",
            "narrow(0, 5) -> 3", "narrow(0, 6) -> -9", "house(3) -> 2"));
        Script.run("16 narrow, both beyond, and counted once", Edge.join(BOOK, "part(0, 5, 6)",
            "narrow(4, 7) -> -9", "house(3) -> 1", "narrow(0, 4) -> -9", "narrow(7, 99) -> -9",
            "narrow(0, 99) -> -9", "house(3) -> 4", "narrow(5, 6) -> 4", "narrow(5, 5) -> 2",
            "narrow(5, 5) -> 2", "narrow(6, 6) -> -9"));
        Script.run("16 narrow, LOW and HIGH of 0 and 99 bind too", Edge.join(BOOK, "part(0, 0, 99)",
            "narrow(0, 99) -> 7", "narrow(99, 99) -> 0", "narrow(98, 99) -> -9", "part(0, 0, 99)",
            "narrow(0, 0) -> 0", "narrow(0, 1) -> -9"));
        Script.run("16 narrow, the part stays narrow", Edge.join(BOOK, "part(0, -1, -1)",
            "narrow(6, 6) -> 2", "partText() -> \"0-6:6 6-6:16\"", "partPut(3, 5, 0) -> -9",
            "partPut(3, 7, 0) -> -9", "partPut(3, 6, 0) -> -1"));
    }

    private static void putWithin() {
        Script.run("17 partPut, to at LOW and below it", Edge.join(BOOK, "part(0, 6, -1)",
            "partPut(1, 5, 1) -> -9", "partPut(5, 5, 1) -> -9", "noteOf(0, 5, 5, -1) -> 15",
            "partPut(1, 6, 1) -> -1", "partPut(6, 6, 1) -> 16", "house(3) -> 2"));
        Script.run("17 partPut, to at HIGH and above it", Edge.join(BOOK, "part(0, -1, 6)",
            "partPut(1, 7, 1) -> -9", "partPut(7, 7, 1) -> -9", "noteOf(0, 7, 7, -1) -> 17",
            "partPut(1, 6, 1) -> -1", "partPut(0, 6, 1) -> 6", "house(3) -> 2"));
        Script.run("17 partPut, LOW and HIGH that are NONE", "part(1, -1, -1)",
            "partPut(0, 0, 1) -> -1", "partPut(99, 99, 1) -> -1", "part(1, -1, 98)",
            "partPut(1, 99, 1) -> -9", "partPut(0, 98, 1) -> -1", "part(1, 1, -1)",
            "partPut(0, 0, 2) -> -9", "partPut(0, 1, 1) -> -1", "text(0, false) -> \"\"");
        Script.run("17 partPut, -9 once if full and beyond", Edge.join(BOOK, "put(0, 9, 9, 9)",
            "part(0, 5, 6)", "partPut(1, 7, 1) -> -9", "house(3) -> 1", "partPut(1, 6, 1) -> -9",
            "house(3) -> 2", "partPut(6, 6, 1) -> 16", "partPut(7, 7, 1) -> -9", "house(3) -> 3"));
    }

    private static void takenWithin() {
        Script.run("18 partTake, to at LOW and below it, at HIGH and above it", Edge.join(BOOK,
            "change(0, 5, 5, 0)", "part(0, 5, 6)", "partTake(4, 4) -> -1", "partTake(0, 7) -> -1",
            "partTake(7, 7) -> -1", "ofBook(0, 0) -> 7", "partTake(5, 5) -> 0", "partTake(5, 5) -> -1",
            "partTake(0, 5) -> 5", "partTake(6, 6) -> 16", "partTake(1, 6) -> -1",
            "text(0, false) -> \"4-4:14 0-6:6 0-7:7 7-7:17\"", "house(3) -> 0"));
        Script.run("18 partTake, LOW and HIGH that are NONE", Edge.join(BOOK, "part(0, -1, -1)",
            "partTake(4, 4) -> 14", "partTake(7, 7) -> 17", "ofBook(0, 0) -> 5"));
    }

    private static void drawnWithin() {
        Script.run("19 partDraw, to the last one of the part", Edge.join(BOOK, "part(0, 6, 6)",
            "partDraw(true) -> 606", "partDraw(true) -> 600", "partDraw(true) -> -1",
            "partDraw(false) -> -1", "ofBook(0, 0) -> 5"));
        Script.run("19 partDraw, the first one and the last one", Edge.join(BOOK, "part(0, 5, 6)",
            "partDraw(false) -> 500", "partDraw(true) -> 606", "partDraw(false) -> 505",
            "partDraw(false) -> 600", "partDraw(false) -> -1",
            "text(0, false) -> \"4-4:14 0-7:7 7-7:17\"", "part(0, -1, -1)", "partDraw(false) -> 404",
            "partDraw(true) -> 707"));
    }

    private static void clearedWithin() {
        Script.run("20 partClear, of some, of none and of all", Edge.join(BOOK, "part(0, 5, 6)",
            "partClear() -> 4", "text(0, false) -> \"4-4:14 0-7:7 7-7:17\"", "partClear() -> 0",
            "part(0, 7, -1)", "partClear() -> 2", "part(0, -1, -1)", "partClear() -> 1",
            "partClear() -> 0", "house(0) -> 0"));
        Script.run("20 partClear, of eight", Edge.join(BOOK, "put(0, 99, 99, 9)", "copy(1, 0)",
            "part(0, -1, 99)", "partClear() -> 8", "ofBook(1, 0) -> 8"));
    }

    private static void handOfNoneAndAll() {
        Script.run("23 to 26, a hand over a book without spans", "hand(2) -> 0", "house(2) -> 1",
            "next() -> -1", "next() -> -1", "renote(0) -> -9", "takeOut() -> -9", "house(3) -> 2",
            "house(2) -> 1", "put(2, 0, 0, 0)", "next() -> -9", "hand(2) -> 1", "next() -> 0",
            "next() -> -1", "takeOut() -> 0", "next() -> -1");
        Script.run("24 next, to the last one and beyond", Edge.join(THREE, "next() -> 401",
            "next() -> 602", "next() -> 905", "next() -> -1", "next() -> -1", "renote(9) -> 3",
            "next() -> -1", "house(3) -> 0", "takeOut() -> 2", "next() -> -1", "takeOut() -> -9"));
        String[] eight = {"put(1, 0, 0, 0)", "put(1, 1, 1, 1)", "put(1, 2, 2, 2)", "put(1, 3, 3, 3)",
            "put(1, 4, 4, 4)", "put(1, 5, 5, 5)", "put(1, 6, 6, 6)", "put(1, 7, 7, 7)"};
        Script.run("24 next, of eight", Edge.join(eight, "hand(1) -> 8", "next() -> 0",
            "next() -> 101", "next() -> 202", "next() -> 303", "next() -> 404", "next() -> 505",
            "next() -> 606", "next() -> 707", "next() -> -1", "renote(70) -> 7"));
        Script.run("26 takeOut, of eight", Edge.join(eight, "hand(1) -> 8", "next() -> 0",
            "takeOut() -> 7", "next() -> 101", "takeOut() -> 6", "next() -> 202", "takeOut() -> 5",
            "next() -> 303", "takeOut() -> 4", "next() -> 404", "takeOut() -> 3", "next() -> 505",
            "takeOut() -> 2", "next() -> 606", "takeOut() -> 1", "next() -> 707", "takeOut() -> 0",
            "next() -> -1", "house(2) -> 1"));
    }

    private static void renoted() {
        Script.run("25 renote, gave none yet, gave one, took that one out", Edge.join(THREE,
            "renote(9) -> -9", "next() -> 401", "renote(9) -> 1", "renote(0) -> 9", "renote(0) -> 0",
            "takeOut() -> 2", "renote(9) -> -9", "next() -> 602", "renote(9) -> 2",
            "text(0, false) -> \"2-6:9 5-9:3\"", "house(3) -> 2"));
        Script.run("25 renote, of another hand that gave none yet", Edge.join(THREE, "next() -> 401",
            "hand(0)", "renote(9) -> -9", "next() -> 401", "renote(9) -> 1"));
    }

    private static void takenOut() {
        Script.run("26 takeOut, gave none yet, gave one, took that one out", Edge.join(THREE,
            "takeOut() -> -9", "ofBook(0, 0) -> 3", "next() -> 401", "takeOut() -> 2",
            "takeOut() -> -9", "ofBook(0, 0) -> 2", "next() -> 602", "takeOut() -> 1",
            "takeOut() -> -9", "next() -> 905", "takeOut() -> 0", "takeOut() -> -9", "house(3) -> 4",
            "house(2) -> 1"));
        Script.run("26 takeOut, then one comes or goes", Edge.join(THREE, "next() -> 401",
            "takeOut() -> 2", "house(2) -> 1", "put(0, 1, 4, 1)", "house(2) -> 2", "next() -> -9"));
        Script.run("26 takeOut, of a hand over another book", Edge.join(THREE, "copy(1, 0)",
            "hand(1)", "next() -> 401", "takeOut() -> 2", "ofBook(0, 0) -> 3", "ofBook(1, 0) -> 2"));
    }

    private static void lostAndNot() {
        Script.run("24 a hand lost before it gave one, in the middle, and when it gave all",
            Edge.join(THREE, "draw(0, true)", "house(2) -> 2", "next() -> -9", "hand(0)", "next() -> 401",
            "draw(0, true)", "next() -> -9", "house(2) -> 2", "hand(0)", "next() -> 401",
            "next() -> -1", "draw(0, true)", "next() -> -9", "renote(1) -> -9", "takeOut() -> -9"));
        Script.run("24 a lost hand stays lost", Edge.join(THREE, "next()", "take(0, 5, 9)",
            "put(0, 5, 9, 3)", "next() -> -9", "house(2) -> 2", "clear(0)", "next() -> -9",
            "change(0, 1, 4, 1) -> -1", "next() -> -9", "copy(0, 0)", "next() -> -9", "house(2) -> 2"));
        Script.run("24 another book does not matter", Edge.join(THREE, "put(1, 0, 0, 0)",
            "put(2, 0, 0, 0)", "draw(1, true)", "clear(2)", "pour(1, 0)", "sift(2, 0, true)",
            "house(2) -> 1", "next() -> 401", "takeOut() -> 2"));
        Script.run("24 a pour of those that are there does not matter", Edge.join(THREE,
            "put(1, 2, 6, 9)", "pour(0, 1) -> 0", "house(2) -> 1", "put(1, 3, 6, 9)",
            "pour(0, 1) -> 1", "house(2) -> 2"));
        Script.run("24 a hand that lost its way over one book is well over another", Edge.join(THREE,
            "draw(0, true)", "house(2) -> 2", "hand(1)", "house(2) -> 1", "next() -> -1",
            "hand(0) -> 2", "house(2) -> 1", "next() -> 401"));
    }

    /** copy() into the book of the hand, and into each other one. */
    private static void copiesLose() {
        for (int i = 0; i < 27; i++) {
            int book = i / 9;
            int into = i / 3 % 3;
            String copy = "copy(" + into + ", " + i % 3 + ") -> 0";
            Script.run("24 a hand over " + book + ", " + copy, "hand(" + book + ")", copy,
                "house(2) -> " + (book == into ? 2 : 1), "next() -> " + (book == into ? -9 : -1));
        }
    }

    private static void refusalsChangeNothing() {
        String[] full = Edge.join(THREE, "put(1, 10, 10, 0)", "put(1, 11, 11, 0)", "put(1, 12, 12, 0)",
            "put(1, 13, 13, 0)", "put(1, 14, 14, 0)", "put(1, 2, 6, 70)", "pour(0, 1) -> 5",
            "put(1, 15, 15, 0)", "hand(0) -> 8", "next() -> 401", "part(0, 6, 8)");
        String[] refused = {"put(0, 3, 3, 3)", "add(0, 3, 3, 3)", "more(0, 3, 3, 3)", "pour(0, 1)",
            "narrow(5, 8)", "narrow(6, 9)", "partPut(3, 7, 3)", "partPut(1, 4, 3)",
            "between(0, 0, 1, 0, 0)"};
        for (String call : refused) {
            Script.run("-9 changes nothing but its count", Edge.join(full, call + " -> -9",
                "house(3) -> 1", "house(2) -> 1", "renote(5) -> 1", "next() -> 602",
                "renote(5) -> 70", "takeOut() -> 7", "partText() -> \"\"", "ofPart(1) -> 6",
                "ofPart(2) -> 8"));
        }
        Script.run("-9 of the hand changes nothing but its count", Edge.join(full, "takeOut() -> 7",
            "takeOut() -> -9", "renote(5) -> -9", "takeOut() -> -9", "house(3) -> 3",
            "next() -> 602", "takeOut() -> 6"));
    }
}
