/** Promises 23 to 26: the hand. */
public final class HandTest {
    private static final String NO_BOOK = " -> throws.IndexOutOfBoundsException";
    private static final String WRONG = " -> throws.IllegalArgumentException";
    private static final String NO_HAND = " -> throws.IllegalStateException";

    private HandTest() {
    }

    public static void main(String[] args) {
        making();
        giving();
        renoting();
        takingOut();
        lost();
        notLost();
        Script.end();
    }

    /** A book 0 of three spans, a book 1 of one, and a hand over book 0. */
    private static String[] withHand(String... more) {
        String[] all = new String[more.length + 5];
        all[0] = "put(0, 1, 4, 1)";
        all[1] = "put(0, 2, 6, 2)";
        all[2] = "put(0, 5, 9, 3)";
        all[3] = "put(1, 2, 6, 50)";
        all[4] = "hand(0) -> 3";
        System.arraycopy(more, 0, all, 5, more.length);
        return all;
    }

    private static void making() {
        Script.run("23 hand", withHand("house(2) -> 1", "next() -> 401",
            "hand(0) -> 3", "renote(5) -> -9", "takeOut() -> -9", "next() -> 401",
            "hand(1) -> 1", "next() -> 602",
            "hand(2) -> 0", "next() -> -1", "takeOut() -> -9",
            "hand(0)", "next() -> 401",
            "hand(3)" + NO_BOOK, "hand(-1)" + NO_BOOK, "next() -> 602"));
        Script.run("23 a lost hand is gone when another one is made", withHand("take(0, 1, 4)",
            "house(2) -> 2", "hand(0) -> 2", "house(2) -> 1", "next() -> 602"));
    }

    private static void giving() {
        Script.run("24 next", withHand("next() -> 401", "next() -> 602", "next() -> 905",
            "next() -> -1", "next() -> -1", "house(2) -> 1", "house(3) -> 0"));
        Script.run("24 next without a hand", "next()" + NO_HAND, "put(0, 1, 1, 1)",
            "next()" + NO_HAND, "house(2) -> 0");
        Script.run("24 next of a lost hand that gave all", withHand("next()", "next()", "next()",
            "next() -> -1", "draw(0, true)", "next() -> -9", "next() -> -9"));
    }

    private static void renoting() {
        Script.run("25 renote", withHand("renote(7) -> -9", "next() -> 401", "renote(7) -> 1",
            "renote(0) -> 7", "next() -> 602", "renote(99) -> 2",
            "text(0, false) -> \"1-4:0 2-6:99 5-9:3\"", "text(1, false) -> \"2-6:50\"",
            "next() -> 905", "next() -> -1", "renote(4) -> 3",
            "put(0, 5, 9, 6)", "renote(8) -> 6",
            "renote(-1)" + WRONG, "renote(100)" + WRONG,
            "takeOut() -> 2", "renote(4) -> -9", "house(3) -> 2"));
        Script.run("25 renote without a hand", "renote(100)" + WRONG, "renote(5)" + NO_HAND);
        Script.run("25 renote of a lost hand", withHand("next()", "put(0, 0, 0, 0)",
            "renote(100)" + WRONG, "renote(5) -> -9", "noteOf(0, 1, 4, -1) -> 1"));
    }

    private static void takingOut() {
        Script.run("26 takeOut", withHand("takeOut() -> -9", "next() -> 401", "takeOut() -> 2",
            "takeOut() -> -9", "house(2) -> 1", "next() -> 602", "next() -> 905",
            "next() -> -1", "takeOut() -> 1", "text(0, false) -> \"2-6:2\"",
            "takeOut() -> -9", "next() -> -1", "renote(1) -> -9", "house(3) -> 4"));
        Script.run("26 takeOut of all", withHand("next() -> 401", "takeOut() -> 2",
            "next() -> 602", "takeOut() -> 1", "next() -> 905", "takeOut() -> 0",
            "next() -> -1", "takeOut() -> -9", "text(0, true) -> \"\""));
        Script.run("26 takeOut in the middle", withHand("next()", "next() -> 602",
            "takeOut() -> 2", "next() -> 905", "renote(9) -> 3",
            "text(0, false) -> \"1-4:1 5-9:9\""));
        Script.run("26 takeOut without a hand", "takeOut()" + NO_HAND);
        Script.run("26 takeOut of a lost hand", withHand("next()", "draw(0, true)",
            "takeOut() -> -9", "text(0, false) -> \"1-4:1 2-6:2\""));
        Script.run("26 takeOut changes a part", withHand("part(0, -1, 6)", "next()",
            "takeOut() -> 2", "partText() -> \"2-6:2\""));
    }

    private static void lostBy(String... calls) {
        String[] all = new String[calls.length + 5];
        all[0] = "next() -> 401";
        System.arraycopy(calls, 0, all, 1, calls.length);
        all[calls.length + 1] = "house(2) -> 2";
        all[calls.length + 2] = "next() -> -9";
        all[calls.length + 3] = "renote(1) -> -9";
        all[calls.length + 4] = "takeOut() -> -9";
        Script.run("24 lost by " + calls[calls.length - 1], withHand(all));
    }

    private static void lost() {
        lostBy("put(0, 0, 0, 0)");
        lostBy("add(0, 0, 0, 0)");
        lostBy("more(0, 0, 0, 0)");
        lostBy("take(0, 1, 4)");
        lostBy("take(0, 5, 9)");
        lostBy("takeIf(0, 2, 6, 2)");
        lostBy("takeNote(0, 3)");
        lostBy("draw(0, true)");
        lostBy("draw(0, false)");
        lostBy("clear(0)");
        lostBy("put(1, 7, 7, 7)", "pour(0, 1)");
        lostBy("copy(0, 1)");
        lostBy("copy(0, 0)");
        lostBy("copy(1, 0)", "copy(0, 1)");
        lostBy("sift(0, 1, true)");
        lostBy("sift(0, 1, false)");
        lostBy("part(0, -1, -1)", "partPut(0, 0, 0)");
        lostBy("part(0, -1, -1)", "partTake(1, 4)");
        lostBy("part(0, -1, -1)", "partDraw(true)");
        lostBy("part(0, 5, 6)", "partClear()");
        lostBy("put(0, 0, 0, 0)", "take(0, 0, 0)");
        lostBy("take(0, 1, 4)", "put(0, 1, 4, 1)");
    }

    private static void notLostBy(String... calls) {
        String[] all = new String[calls.length + 5];
        all[0] = "next() -> 401";
        System.arraycopy(calls, 0, all, 1, calls.length);
        all[calls.length + 1] = "house(2) -> 1";
        all[calls.length + 2] = "next() -> 602";
        all[calls.length + 3] = "next() -> 905";
        all[calls.length + 4] = "takeOut() -> 2";
        Script.run("24 not lost by " + calls[calls.length - 1], withHand(all));
    }

    private static void notLost() {
        notLostBy("put(0, 2, 6, 9)");
        notLostBy("add(0, 2, 6, 9)");
        notLostBy("more(0, 2, 6, 9)");
        notLostBy("change(0, 2, 6, 9)");
        notLostBy("changeIf(0, 2, 6, 2, 9)");
        notLostBy("take(0, 0, 0)");
        notLostBy("takeIf(0, 2, 6, 3)");
        notLostBy("takeNote(0, 9)");
        notLostBy("pour(0, 1)");
        notLostBy("pour(0, 0)");
        notLostBy("copy(1, 0)");
        notLostBy("copy(2, 0)", "sift(0, 2, true)");
        notLostBy("sift(0, 2, false)");
        notLostBy("part(0, 20, -1)", "partClear()");
        notLostBy("part(0, 20, -1)", "partDraw(true)");
        notLostBy("part(0, 6, 6)", "partTake(1, 4)");
        notLostBy("part(0, 6, 6)", "partPut(2, 6, 8)");
        notLostBy("part(0, 6, 6)", "partPut(0, 0, 8) -> -9");
        notLostBy("put(1, 0, 0, 0)", "clear(1)");
        notLostBy("draw(2, true)");
        notLostBy("clear(2)");
        notLostBy("put(0, 3, 2, 0)" + WRONG);
        notLostBy("put(1, 10, 10, 0)", "put(1, 11, 11, 0)", "put(1, 12, 12, 0)",
            "put(1, 13, 13, 0)", "put(1, 14, 14, 0)", "put(1, 15, 15, 0)", "pour(0, 1) -> -9");
    }
}
