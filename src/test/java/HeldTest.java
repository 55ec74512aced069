/** Promises 36 to 45: what lies apart, and what is held. */
public final class HeldTest {
    private static final String NO_BOOK = " -> throws.IndexOutOfBoundsException";
    private static final String WRONG = " -> throws.IllegalArgumentException";

    private HeldTest() {
    }

    public static void main(String[] args) {
        choosing();
        choice();
        unheld();
        holders();
        deepest();
        rooms();
        links();
        manySpans();
        Script.end();
    }

    /** A book 0 of seven spans: codes 300, 402, 505, 604, 807, 900, 906. */
    private static String[] withBook(String... more) {
        String[] all = new String[more.length + 7];
        all[0] = "put(0, 0, 3, 0)";
        all[1] = "put(0, 2, 4, 1)";
        all[2] = "put(0, 4, 6, 2)";
        all[3] = "put(0, 5, 5, 3)";
        all[4] = "put(0, 6, 9, 4)";
        all[5] = "put(0, 0, 9, 5)";
        all[6] = "put(0, 7, 8, 6)";
        System.arraycopy(more, 0, all, 7, more.length);
        return all;
    }

    private static void choosing() {
        Script.run("36 most", withBook("most(0) -> 3", "take(0, 5, 5)", "most(0) -> 3",
            "take(0, 7, 8)", "most(0) -> 2", "take(0, 4, 6)", "most(0) -> 2",
            "most(1) -> 0", "most(3)" + NO_BOOK, "most(-1)" + NO_BOOK));
        Script.run("36 most, ends that touch", "put(0, 0, 4, 1)", "put(0, 4, 8, 1)",
            "most(0) -> 1", "put(0, 5, 8, 1)", "most(0) -> 2", "chosen(0, 1) -> 805");
        Script.run("37 chosen", withBook("chosen(0, 0) -> 300", "chosen(0, 1) -> 505",
            "chosen(0, 2) -> 807", "chosen(0, 3) -> -1", "chosen(0, 8) -> -1",
            "chosen(0, 2147483647) -> -1", "chosen(1, 0) -> -1",
            "chosen(0, -1)" + WRONG, "chosen(0, -2147483648)" + WRONG, "chosen(1, -1)" + WRONG,
            "chosen(3, -1)" + NO_BOOK, "chosen(-1, 0)" + NO_BOOK));
    }

    private static void choice() {
        Script.run("38 choice", withBook("choice(0, 0) -> 0", "choice(0, 1) -> 1",
            "choice(0, 5) -> 2", "choice(0, 21) -> 3", "choice(0, 3) -> -1",
            "choice(0, 36) -> -1", "choice(0, 64) -> 1", "choice(0, 127) -> -1",
            "choice(0, 68) -> 2", "choice(0, 72) -> -1",
            "choice(0, 128)" + WRONG, "choice(0, 129)" + WRONG, "choice(0, -1)" + WRONG,
            "choice(0, 1073741824)" + WRONG, "choice(0, -2147483648)" + WRONG,
            "choice(1, 0) -> 0", "choice(1, 1)" + WRONG,
            "choice(3, -1)" + NO_BOOK, "choice(-1, 0)" + NO_BOOK));
    }

    private static void unheld() {
        Script.run("39 unheld", withBook("unheld(0, 0) -> 7", "unheld(0, 1) -> 4",
            "unheld(0, 5) -> 2", "unheld(0, 37) -> 1", "unheld(0, 21) -> 0",
            "unheld(0, 32) -> 5", "unheld(0, 127) -> 0", "unheld(0, 64) -> 5",
            "unheld(0, 128)" + WRONG, "unheld(0, -1)" + WRONG, "unheld(0, 256)" + WRONG,
            "unheld(0, 2147483647)" + WRONG,
            "unheld(1, 0) -> 0", "unheld(1, 1)" + WRONG,
            "unheld(3, -1)" + NO_BOOK, "unheld(-1, 0)" + NO_BOOK));
    }

    private static void holders() {
        Script.run("40 holders", withBook("holders(0, 0) -> 33", "holders(0, 4) -> 42",
            "holders(0, 5) -> 44", "holders(0, 9) -> 96", "holders(0, 10) -> 0",
            "holders(0, 99) -> 0", "holders(1, 0) -> 0",
            "holders(0, 100)" + WRONG, "holders(0, -1)" + WRONG, "holders(1, -1)" + WRONG,
            "holders(3, 100)" + NO_BOOK, "holders(-1, 0)" + NO_BOOK));
    }

    private static void deepest() {
        Script.run("41 deepest", withBook("deepest(0, false) -> 3", "deepest(0, true) -> 2",
            "take(0, 2, 4)", "deepest(0, false) -> 3", "deepest(0, true) -> 5",
            "put(0, 0, 99, 1)", "deepest(0, false) -> 4", "deepest(0, true) -> 5",
            "deepest(1, false) -> 0", "deepest(1, true) -> -1",
            "deepest(3, true)" + NO_BOOK, "deepest(-1, false)" + NO_BOOK));
        Script.run("41 deepest at the ends", "put(2, 99, 99, 1)", "deepest(2, true) -> 99",
            "deepest(2, false) -> 1", "put(2, 0, 0, 1)", "deepest(2, true) -> 0",
            "put(2, 98, 99, 1)", "deepest(2, true) -> 99", "deepest(2, false) -> 2");
    }

    private static void rooms() {
        Script.run("42 rooms", withBook("rooms(0) -> 3", "put(0, 5, 6, 0)", "rooms(0) -> 4",
            "clear(0)", "rooms(0) -> 0", "rooms(1) -> 0", "rooms(3)" + NO_BOOK,
            "rooms(-1)" + NO_BOOK));
        Script.run("43 roomOf", withBook("roomOf(0, 0, 3) -> 0", "roomOf(0, 0, 9) -> 1",
            "roomOf(0, 2, 4) -> 2", "roomOf(0, 4, 6) -> 0", "roomOf(0, 5, 5) -> 2",
            "roomOf(0, 6, 9) -> 2", "roomOf(0, 7, 8) -> 0",
            "roomOf(0, 1, 1) -> -1", "roomOf(1, 0, 3) -> -1",
            "roomOf(0, 4, 3)" + WRONG, "roomOf(0, -1, 3)" + WRONG, "roomOf(0, 0, 100)" + WRONG,
            "roomOf(3, 4, 3)" + NO_BOOK, "roomOf(-1, 0, 3)" + NO_BOOK));
        Script.run("43 roomOf, the same from", "put(0, 0, 9, 1)", "put(0, 0, 0, 1)",
            "put(0, 0, 5, 1)", "put(0, 1, 2, 1)", "put(0, 6, 6, 1)", "roomOf(0, 0, 0) -> 0",
            "roomOf(0, 0, 5) -> 1", "roomOf(0, 0, 9) -> 2", "roomOf(0, 1, 2) -> 0",
            "roomOf(0, 6, 6) -> 0", "rooms(0) -> 3");
    }

    private static void links() {
        Script.run("44 links", withBook("links(0, 0, 9) -> 1", "take(0, 0, 9)",
            "links(0, 0, 9) -> 3", "links(0, 0, 3) -> 1", "links(0, 0, 4) -> 2",
            "links(0, 0, 10) -> -1", "links(0, 9, 9) -> 1", "links(0, 10, 10) -> -1",
            "links(0, 99, 99) -> -1", "links(0, 7, 9) -> 1", "links(1, 0, 0) -> -1",
            "links(0, 5, 4)" + WRONG, "links(0, -1, 4)" + WRONG, "links(0, 5, 100)" + WRONG,
            "links(0, 100, 100)" + WRONG, "links(3, 5, 4)" + NO_BOOK, "links(-1, 0, 4)" + NO_BOOK));
        Script.run("44 links, places that none holds", "put(0, 5, 9, 1)", "put(0, 11, 20, 1)",
            "links(0, 0, 9) -> -1", "links(0, 4, 4) -> -1", "links(0, 5, 9) -> 1",
            "links(0, 5, 10) -> -1", "links(0, 9, 11) -> -1", "links(0, 10, 20) -> -1",
            "links(0, 11, 11) -> 1", "put(0, 10, 10, 1)", "links(0, 5, 20) -> 3");
        Script.run("45 link", withBook("link(0, 0, 9, 0) -> 900", "link(0, 0, 9, 1) -> -1",
            "take(0, 0, 9)", "link(0, 0, 9, 0) -> 300", "link(0, 0, 9, 1) -> 604",
            "link(0, 0, 9, 2) -> 906", "link(0, 0, 9, 3) -> -1",
            "link(0, 0, 9, 2147483647) -> -1", "link(0, 0, 10, 0) -> -1",
            "link(1, 0, 0, 0) -> -1", "link(0, 5, 4, 0)" + WRONG, "link(0, -1, 4, 0)" + WRONG,
            "link(0, 0, 100, 0)" + WRONG, "link(0, 0, 9, -1)" + WRONG,
            "link(0, 0, 10, -1)" + WRONG, "link(3, 0, 9, -1)" + NO_BOOK,
            "link(-1, 0, 9, 0)" + NO_BOOK));
        Script.run("45 link, of several with the same to the greatest from", "put(0, 0, 9, 1)",
            "put(0, 3, 9, 1)", "put(0, 5, 9, 1)", "link(0, 4, 9, 0) -> 903",
            "link(0, 5, 5, 0) -> 905", "link(0, 2, 9, 0) -> 900");
    }

    private static void manySpans() {
        Script.run("36 to 45, eight spans",
            "put(0, 0, 0, 0)", "put(0, 1, 1, 0)", "put(0, 2, 2, 0)", "put(0, 3, 3, 0)",
            "put(0, 4, 4, 0)", "put(0, 5, 5, 0)", "put(0, 6, 6, 0)", "put(0, 7, 7, 0)",
            "most(0) -> 8", "chosen(0, 7) -> 707", "chosen(0, 8) -> -1", "choice(0, 255) -> 8",
            "choice(0, 256)" + WRONG, "unheld(0, 255) -> 0", "unheld(0, 127) -> 1",
            "unheld(0, 256)" + WRONG, "holders(0, 7) -> 128", "rooms(0) -> 1",
            "links(0, 0, 7) -> 8", "links(0, 0, 8) -> -1", "link(0, 0, 7, 7) -> 707",
            "link(0, 0, 8, 7) -> -1", "link(0, 0, 7, 8) -> -1");
        Script.run("36 to 45, eight spans that all meet",
            "put(0, 0, 50, 0)", "put(0, 1, 51, 0)", "put(0, 2, 52, 0)", "put(0, 3, 53, 0)",
            "put(0, 4, 54, 0)", "put(0, 5, 55, 0)", "put(0, 6, 56, 0)", "put(0, 50, 99, 0)",
            "most(0) -> 1", "rooms(0) -> 8", "roomOf(0, 50, 99) -> 7", "deepest(0, false) -> 8",
            "deepest(0, true) -> 50", "holders(0, 50) -> 255", "links(0, 0, 99) -> 2",
            "link(0, 0, 99, 1) -> 9950", "unheld(0, 1) -> 0");
    }
}
