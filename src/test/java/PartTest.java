/** Promises 15 to 22: the part. */
public final class PartTest {
    private static final String NO_BOOK = " -> throws.IndexOutOfBoundsException";
    private static final String WRONG = " -> throws.IllegalArgumentException";
    private static final String NO_PART = " -> throws.IllegalStateException";

    private PartTest() {
    }

    public static void main(String[] args) {
        making();
        gone();
        narrowing();
        putting();
        taking();
        drawing();
        clearing();
        asking();
        telling();
        Script.end();
    }

    /** A book 0 of five spans, and a part of it. */
    private static String[] withPart(String part, String... more) {
        String[] all = new String[more.length + 6];
        all[0] = "put(0, 1, 4, 1)";
        all[1] = "put(0, 2, 6, 2)";
        all[2] = "put(0, 5, 9, 3)";
        all[3] = "put(0, 0, 9, 4)";
        all[4] = "put(0, 8, 12, 5)";
        all[5] = part;
        System.arraycopy(more, 0, all, 6, more.length);
        return all;
    }

    private static void making() {
        Script.run("15 part", withPart("part(0, 6, 9) -> 3",
            "partText() -> \"2-6:2 0-9:4 5-9:3\"",
            "part(0, 7, 8) -> 0", "part(0, 9, 9) -> 2", "part(0, -1, -1) -> 5",
            "part(0, -1, 6) -> 2", "part(0, 9, -1) -> 3", "part(0, 0, 99) -> 5",
            "part(0, 99, -1) -> 0", "part(0, -1, 0) -> 0", "part(0, -1, 99) -> 5",
            "part(0, 4, 4) -> 1", "part(1, 0, 99) -> 0", "house(1) -> 1",
            "part(2, -1, -1) -> 0", "house(1) -> 2", "house(3) -> 0"));
        Script.run("15 part, wrong", withPart("part(0, 6, 9) -> 3",
            "part(0, 3, 2)" + WRONG, "part(0, 99, 0)" + WRONG, "part(0, -2, 5)" + WRONG,
            "part(0, 5, -2)" + WRONG, "part(0, 100, -1)" + WRONG, "part(0, -1, 100)" + WRONG,
            "part(0, 100, 100)" + WRONG,
            "part(3, 3, 2)" + NO_BOOK, "part(-1, 3, 4)" + NO_BOOK,
            "partText() -> \"2-6:2 0-9:4 5-9:3\""));
        Script.run("15 a part has the spans as they are at the time", withPart("part(0, 6, 9)",
            "put(0, 7, 7, 9)", "put(0, 0, 5, 9)", "put(0, 10, 10, 9)", "take(0, 0, 9)",
            "partText() -> \"2-6:2 7-7:9 5-9:3\"",
            "change(0, 2, 6, 70)", "clear(1)",
            "partText() -> \"2-6:70 7-7:9 5-9:3\"",
            "clear(0)", "partText() -> \"\"", "house(1) -> 0",
            "put(0, 6, 6, 6)", "partText() -> \"6-6:6\""));
    }

    private static void gone() {
        Script.run("15 copy into its book lets the part be gone", withPart("part(0, 6, 9)",
            "copy(1, 0)", "house(1) -> 0",
            "pour(0, 1)", "sift(0, 2, true)", "draw(0, true)", "house(1) -> 0",
            "copy(0, 1)", "house(1) -> -1", "ofPart(0)" + NO_PART, "partText()" + NO_PART,
            "part(0, -1, -1) -> 5", "copy(0, 0) -> 5", "house(1) -> -1", "partText()" + NO_PART,
            "part(0, -1, -1) -> 5", "copy(0, 3)" + NO_BOOK, "house(1) -> 0"));
    }

    private static void narrowing() {
        Script.run("16 narrow", withPart("part(0, 6, 9)",
            "narrow(5, 9) -> -9", "narrow(6, 10) -> -9", "narrow(5, 10) -> -9",
            "narrow(0, 5) -> -9", "narrow(10, 99) -> -9",
            "narrow(6, 9) -> 3", "narrow(7, 9) -> 2",
            "ofPart(1) -> 7", "ofPart(2) -> 9", "narrow(6, 9) -> -9",
            "narrow(7, 8) -> 0", "narrow(8, 8) -> 0", "narrow(8, 9) -> -9", "house(3) -> 7"));
        Script.run("16 narrow without bounds", withPart("part(0, -1, -1)",
            "narrow(0, 99) -> 5",
            "part(0, -1, 9)", "narrow(0, 10) -> -9", "narrow(0, 9) -> 4", "ofPart(1) -> 0",
            "part(0, 6, -1)", "narrow(5, 99) -> -9", "narrow(6, 99) -> 4", "ofPart(2) -> 99"));
        Script.run("16 narrow, wrong", withPart("narrow(3, 4)" + NO_PART,
            "narrow(4, 3)" + WRONG, "part(0, -1, -1)", "narrow(4, 3)" + WRONG,
            "narrow(-1, 3)" + WRONG, "narrow(3, -1)" + WRONG, "narrow(-1, -1)" + WRONG,
            "narrow(0, 100)" + WRONG, "narrow(100, 100)" + WRONG, "ofPart(1) -> -1"));
    }

    private static void putting() {
        Script.run("17 partPut", withPart("part(0, 6, 9)",
            "partPut(1, 5, 7) -> -9", "partPut(1, 10, 7) -> -9",
            "partPut(1, 4, 7) -> -9", "partPut(8, 12, 7) -> -9",
            "partPut(1, 6, 7) -> -1", "partPut(9, 9, 8) -> -1", "partPut(2, 6, 20) -> 2",
            "text(0, false) -> \"1-4:1 1-6:7 2-6:20 0-9:4 5-9:3 9-9:8 8-12:5\"",
            "partPut(7, 7, 0) -> -1",
            "partPut(8, 8, 0) -> -9", "partPut(8, 10, 0) -> -9", "partPut(7, 7, 1) -> 0",
            "house(3) -> 6"));
        Script.run("17 partPut without bounds", withPart("part(0, -1, 9)",
            "partPut(0, 0, 7) -> -1", "partPut(0, 10, 7) -> -9",
            "part(0, 9, -1)", "partPut(99, 99, 7) -> -1", "partPut(0, 8, 7) -> -9"));
        Script.run("17 partPut, wrong", withPart("partPut(1, 6, 7)" + NO_PART,
            "partPut(6, 1, 7)" + WRONG, "partPut(1, 6, 100)" + WRONG, "part(0, 6, 9)",
            "partPut(6, 5, 7)" + WRONG, "partPut(-1, 6, 7)" + WRONG, "partPut(7, 100, 7)" + WRONG,
            "partPut(1, 6, -1)" + WRONG, "partPut(1, 5, 100)" + WRONG, "ofBook(0, 0) -> 5"));
    }

    private static void taking() {
        Script.run("18 partTake", withPart("part(0, 6, 9)",
            "partTake(1, 4) -> -1", "partTake(8, 12) -> -1", "partTake(3, 6) -> -1",
            "ofBook(0, 0) -> 5",
            "partTake(0, 9) -> 4", "partTake(0, 9) -> -1", "partTake(2, 6) -> 2",
            "text(0, false) -> \"1-4:1 5-9:3 8-12:5\""));
        Script.run("18 partTake, wrong", withPart("partTake(2, 6)" + NO_PART,
            "partTake(6, 2)" + WRONG, "part(0, 6, 9)", "partTake(6, 5)" + WRONG,
            "partTake(-1, 6)" + WRONG, "partTake(0, 100)" + WRONG, "ofBook(0, 0) -> 5"));
    }

    private static void drawing() {
        Script.run("19 partDraw", withPart("partDraw(true)" + NO_PART, "part(0, 6, 9)",
            "partDraw(true) -> 905", "partDraw(false) -> 602", "partDraw(true) -> 900",
            "partDraw(true) -> -1", "partDraw(false) -> -1",
            "text(0, false) -> \"1-4:1 8-12:5\"",
            "part(0, -1, -1)", "partDraw(true) -> 1208", "partDraw(false) -> 401",
            "partDraw(false) -> -1"));
    }

    private static void clearing() {
        Script.run("20 partClear", withPart("partClear()" + NO_PART, "part(0, 6, 9)",
            "partClear() -> 3", "text(0, false) -> \"1-4:1 8-12:5\"", "partClear() -> 0",
            "house(1) -> 0", "part(0, -1, -1)", "partClear() -> 2", "text(0, true) -> \"\"",
            "part(1, -1, -1)", "partClear() -> 0"));
    }

    private static void asking() {
        Script.run("21 ofPart", withPart("ofPart(0)" + NO_PART, "ofPart(6)" + WRONG,
            "ofPart(-1)" + WRONG, "part(0, 6, 9)",
            "ofPart(0) -> 0", "ofPart(1) -> 6", "ofPart(2) -> 9", "ofPart(3) -> 3",
            "ofPart(4) -> 602", "ofPart(5) -> 905", "ofPart(6)" + WRONG, "ofPart(-1)" + WRONG,
            "part(0, 7, 8)", "ofPart(3) -> 0", "ofPart(4) -> -1", "ofPart(5) -> -1",
            "part(0, 20, -1)", "ofPart(1) -> 20", "ofPart(2) -> -1", "ofPart(4) -> -1",
            "part(2, -1, 3)", "ofPart(0) -> 2", "ofPart(1) -> -1", "ofPart(2) -> 3",
            "ofPart(5) -> -1"));
    }

    private static void telling() {
        Script.run("22 partText", withPart("partText()" + NO_PART, "part(0, 6, 9)",
            "partText() -> \"2-6:2 0-9:4 5-9:3\"", "part(0, 12, 12)", "partText() -> \"8-12:5\"",
            "part(0, 13, -1)", "partText() -> \"\"",
            "part(0, -1, -1)", "partText() -> \"1-4:1 2-6:2 0-9:4 5-9:3 8-12:5\""));
    }
}
