import java.util.ArrayList;
import java.util.List;

/**
 * What a call changes and what it leaves as it is: all books, the part, the hand, the counts, with the
 * part and the hand over each of the books. A is the book of the call, B and C are the other ones; in
 * each turn these are other ones of the books 0 to 2.
 */
public final class FrameTest {
    /** The same span 2-5 stands in the middle of each, and the first span of each is another one. */
    private static final String[] TEXTS = {
        "0-3:10 2-5:11 7-9:12", "0-4:20 2-5:21 8-9:22", "1-3:30 2-5:31 7-8:32"};
    /** Five more spans for A, so that it is full. */
    private static final String REST = " 20-20:1 21-21:2 22-22:3 23-23:4 24-24:5";
    private static final int[] FIRST_CODES = {300, 400, 301};
    private static final int[] FIRST_NOTES = {10, 20, 30};

    private final int turn;
    private final int ofPart;
    private final int ofHand;
    private boolean isFull = false;

    private FrameTest(int turn, int ofPart, int ofHand) {
        this.turn = turn;
        this.ofPart = ofPart;
        this.ofHand = ofHand;
    }

    public static void main(String[] args) {
        for (int i = 0; i < 27; i++) {
            FrameTest test = new FrameTest(i / 9, i / 3 % 3, i % 3);
            test.oneSpan();
            test.manySpans();
            test.copies();
            test.partAndHandMade();
            test.refused();
            if (test.ofPart == 0) {
                test.byPart();
            }
            if (test.ofHand == 0) {
                test.byHand();
            }
            test.refusedByFullBook();
        }
        Script.end();
    }

    private void oneSpan() {
        moves("put(A, 1, 1, 5) -> -1", "1-1:5 0-3:10 2-5:11 7-9:12");
        stays("put(A, 2, 5, 5) -> 11", "0-3:10 2-5:5 7-9:12");
        moves("add(A, 8, 9, 5) -> -1", "0-3:10 2-5:11 7-9:12 8-9:5");
        stays("add(A, 2, 5, 5) -> 11", TEXTS[0]);
        moves("more(A, 2, 6, 5) -> 5", "0-3:10 2-5:11 2-6:5 7-9:12");
        stays("more(A, 2, 5, 5) -> 16", "0-3:10 2-5:16 7-9:12");
        stays("change(A, 2, 5, 5) -> 11", "0-3:10 2-5:5 7-9:12");
        stays("change(A, 2, 6, 5) -> -1", TEXTS[0]);
        stays("changeIf(A, 2, 5, 11, 5) -> 1", "0-3:10 2-5:5 7-9:12");
        stays("changeIf(A, 2, 5, 21, 5) -> 0", TEXTS[0]);
        stays("changeIf(A, 2, 6, 11, 5) -> 0", TEXTS[0]);
        moves("take(A, 0, 3) -> 10", "2-5:11 7-9:12");
        moves("take(A, 7, 9) -> 12", "0-3:10 2-5:11");
        stays("take(A, 7, 8) -> -1", TEXTS[0]);
        moves("takeIf(A, 2, 5, 11) -> 1", "0-3:10 7-9:12");
        stays("takeIf(A, 2, 5, 12) -> 0", TEXTS[0]);
        stays("takeIf(A, 7, 8, 12) -> 0", TEXTS[0]);
        moves("takeNote(A, 11) -> 1", "0-3:10 7-9:12");
        stays("takeNote(A, 21) -> 0", TEXTS[0]);
        moves("draw(A, false) -> 300", "2-5:11 7-9:12");
        moves("draw(A, true) -> 907", "0-3:10 2-5:11");
    }

    private void manySpans() {
        moves("clear(A) -> 3", "");
        moves("pour(A, B) -> 2", "0-3:10 0-4:20 2-5:21 7-9:12 8-9:22");
        moves("pour(A, C) -> 2", "0-3:10 1-3:30 2-5:31 7-8:32 7-9:12");
        stays("pour(A, A) -> 0", TEXTS[0]);
        moves("sift(A, B, false) -> 1", "0-3:10 7-9:12");
        moves("sift(A, C, true) -> 2", "2-5:11");
    }

    private void copies() {
        copies("copy(A, B) -> 3", TEXTS[1]);
        copies("copy(A, C) -> 3", TEXTS[2]);
        copies("copy(A, A) -> 3", TEXTS[0]);
    }

    private void partAndHandMade() {
        run("part(A, 2, -1) -> 3", TEXTS[0], part(at('A'), 2, -1), goesOn());
        run("part(A, -1, 3) -> 1", TEXTS[0], part(at('A'), -1, 3), goesOn());
        run("hand(A) -> 3", TEXTS[0], samePart(), new String[] {"house(2) -> 1", "renote(77) -> -9",
            "next() -> 300", "next() -> 502"});
    }

    private void refused() {
        stays("between(A, 2, 5, 0, 3) -> -9", TEXTS[0]);
        stays("narrow(4, 8) -> -9", TEXTS[0]);
        stays("narrow(5, 9) -> -9", TEXTS[0]);
        stays("partPut(2, 4, 5) -> -9", TEXTS[0]);
        stays("put(A, 3, 2, 5) -> " + Edge.ARGUMENT, TEXTS[0]);
        stays("copy(A, 3) -> " + Edge.INDEX, TEXTS[0]);
        stays("sift(A, A, true) -> " + Edge.ARGUMENT, TEXTS[0]);
        stays("part(A, 5, 4) -> " + Edge.ARGUMENT, TEXTS[0]);
        stays("narrow(5, 4) -> " + Edge.ARGUMENT, TEXTS[0]);
        stays("hand(3) -> " + Edge.INDEX, TEXTS[0]);
        stays("renote(100) -> " + Edge.ARGUMENT, TEXTS[0]);
        stays("house(5) -> " + Edge.ARGUMENT, TEXTS[0]);
    }

    private void refusedByFullBook() {
        isFull = true;
        stays("put(A, 2, 4, 5) -> -9", TEXTS[0] + REST);
        stays("add(A, 2, 4, 5) -> -9", TEXTS[0] + REST);
        stays("more(A, 2, 4, 5) -> -9", TEXTS[0] + REST);
        stays("pour(A, B) -> -9", TEXTS[0] + REST);
        stays("pour(C, A) -> -9", TEXTS[0] + REST);
        if (ofPart == 0) {
            stays("partPut(1, 5, 5) -> -9", TEXTS[0] + REST);
        }
    }

    private void byPart() {
        moves("partPut(1, 5, 5) -> -1", "0-3:10 1-5:5 2-5:11 7-9:12");
        stays("partPut(2, 5, 5) -> 11", "0-3:10 2-5:5 7-9:12");
        moves("partTake(2, 5) -> 11", "0-3:10 7-9:12");
        stays("partTake(7, 9) -> -1", TEXTS[0]);
        moves("partDraw(true) -> 502", "0-3:10 7-9:12");
        moves("partDraw(false) -> 502", "0-3:10 7-9:12");
        moves("partClear() -> 1", "0-3:10 7-9:12");
        run("narrow(5, 7) -> 1", TEXTS[0], part(at('A'), 5, 7), goesOn());
        run("narrow(6, 8) -> 0", TEXTS[0], part(at('A'), 6, 8), goesOn());
    }

    private void byHand() {
        byHand("next() -> 502", TEXTS[0], "renote(77) -> 11", "next() -> 907", "next() -> -1");
        byHand("next() -> 502; next() -> 907; next() -> -1", TEXTS[0], "next() -> -1",
            "renote(77) -> 12", "takeOut() -> 2", "next() -> -1");
        byHand("renote(5) -> 10", "0-3:5 2-5:11 7-9:12", "renote(77) -> 5", "next() -> 502");
        byHand("takeOut() -> 2; renote(5) -> -9", "2-5:11 7-9:12", "takeOut() -> -9", "next() -> 502");
        byHand("takeOut() -> 2; takeOut() -> -9", "2-5:11 7-9:12", "renote(77) -> -9", "next() -> 502");
        byHand("takeOut() -> 2", "2-5:11 7-9:12", "renote(77) -> -9", "takeOut() -> -9",
            "next() -> 502", "renote(77) -> 11", "next() -> 907");
    }

    private void byHand(String call, String after, String... more) {
        run(call, after, samePart(), Edge.join(new String[] {"house(2) -> 1"}, more));
    }

    // ---- what is seen behind the call

    /** No span comes to A or goes from it. */
    private void stays(String call, String after) {
        run(call, after, samePart(), goesOn());
    }

    /** A span comes to A or goes from it. */
    private void moves(String call, String after) {
        run(call, after, samePart(), ofHand == 0 ? lost() : goesOn());
    }

    private void copies(String call, String after) {
        String[] none = {"house(1) -> -1", "ofPart(1) -> " + Edge.STATE};
        run(call, after, ofPart == 0 ? none : samePart(), ofHand == 0 ? lost() : goesOn());
    }

    private String[] samePart() {
        return part(book(ofPart), 5, 8);
    }

    private static String[] part(int book, int low, int high) {
        return new String[] {"house(1) -> " + book, "ofPart(1) -> " + low, "ofPart(2) -> " + high};
    }

    private String[] goesOn() {
        return new String[] {"house(2) -> 1", "renote(77) -> " + FIRST_NOTES[ofHand], "next() -> 502"};
    }

    private static String[] lost() {
        return new String[] {"house(2) -> 2", "next() -> -9", "renote(77) -> -9", "takeOut() -> -9"};
    }

    /** Several calls are told with a ; between two. */
    private void run(String call, String after, String[] part, String[] hand) {
        List<String> lines = before();
        String told = call;
        for (char letter = 'A'; letter <= 'C'; letter++) {
            told = told.replaceAll("\\b" + letter + "\\b", String.valueOf(at(letter)));
        }
        lines.addAll(List.of(told.split("; ")));
        for (int i = 0; i < TEXTS.length; i++) {
            String text = i == 0 ? after : TEXTS[i];
            lines.add("text(" + book(i) + ", false) -> \"" + text + '"');
        }
        lines.addAll(List.of(part));
        lines.add("house(3) -> " + (call.endsWith(" -9") ? 2 : 1));
        lines.add("house(4) -> 1");
        lines.addAll(List.of(hand));
        String title = call + ", the part over " + "ABC".charAt(ofPart) + ", the hand over "
            + "ABC".charAt(ofHand) + ", A is " + at('A');
        Script.run(title, lines.toArray(new String[0]));
    }

    private List<String> before() {
        List<String> lines = new ArrayList<>();
        for (int i = 0; i < TEXTS.length; i++) {
            String text = i == 0 && isFull ? TEXTS[i] + REST : TEXTS[i];
            for (String span : text.split(" ")) {
                lines.add("put(" + book(i) + ", " + span.replaceAll("[-:]", ", ") + ") -> -1");
            }
        }
        lines.add("between(0, 1, 1, 0, 0) -> -9");
        lines.add("knock() -> 1");
        lines.add("part(" + book(ofPart) + ", 5, 8) -> " + (ofPart == 2 ? 2 : 1));
        lines.add("hand(" + book(ofHand) + ") -> " + (ofHand == 0 && isFull ? 8 : 3));
        lines.add("next() -> " + FIRST_CODES[ofHand]);
        return lines;
    }

    private int at(char letter) {
        return book(letter - 'A');
    }

    private int book(int i) {
        return (i + turn) % 3;
    }
}
