/**
 * What lies between the promises: objects that do not know of one another, questions that change
 * nothing, and what a long way of calls leaves of a hand, a part and a book.
 */
public final class InterplayTest {
    private static final String[] FIVE = {
        "put(0, 1, 4, 1)", "put(0, 2, 6, 2)", "put(0, 5, 9, 3)", "put(0, 0, 12, 4)",
        "put(0, 11, 15, 5)"};
    /** A part of the last three ones, and a hand that gave the first span. */
    private static final String[] PARTED = Edge.join(FIVE, "put(1, 2, 6, 70)", "part(0, 9, 15) -> 3");
    private static final String[] HELD = Edge.join(PARTED, "hand(0) -> 5", "next() -> 401");
    private static int wrong = 0;

    private InterplayTest() {
    }

    public static void main(String[] args) {
        objectsAreApart();
        questionsChangeNothing();
        otherChanges();
        handGoesOn();
        handGoesOnBehindEach();
        handBesideOthers();
        lostForGood();
        lostByManyMoves();
        farBeyond();
        sameCheck();
        partAndHandTogether();
        if (wrong != 0) {
            System.exit(1);
        }
        Script.end();
    }

    private static void due(String what, Object due, Object got) {
        if (!due.equals(got)) {
            wrong++;
            System.out.println(what + ": answered " + got + ", due was " + due);
        }
    }

    private static void objectsAreApart() {
        Earlyends one = new Earlyends();
        one.put(0, 1, 4, 1);
        one.put(0, 5, 9, 2);
        one.part(0, 9, -1);
        one.hand(0);
        due("the first span of the hand of the one", 401, one.next());
        one.knock();
        one.between(0, 1, 1, 0, 0);
        Earlyends other = new Earlyends();
        due("1 another object, its text", "", other.text(0, false));
        due("1 another object, its part", -1, other.house(1));
        due("1 another object, its hand", 0, other.house(2));
        due("1 another object, its -9", 0, other.house(3));
        due("1 another object, its knocks", 0, other.house(4));
        other.put(0, 0, 99, 7);
        other.hand(1);
        other.part(1, -1, 5);
        other.copy(1, 1);
        due("the text of the one", "1-4:1 5-9:2", one.text(0, false));
        due("the part of the one", "5-9:2", one.partText());
        due("the hand of the one", 1, one.house(2));
        due("the -9 of the one", 1, one.house(3));
        due("the knocks of the one", 1, one.house(4));
        due("the note of that span", 1, one.renote(6));
        due("the chosen ones of the other", 1, other.most(0));
        due("the chosen ones of the one", 2, one.most(0));
        due("the second chosen one of the one", 905, one.chosen(0, 1));
        due("the hand of the other", -9, other.next());
        due("the second span of the hand of the one", 905, one.next());
        due("the text of the one, behind renote()", "1-4:6 5-9:2", one.text(0, false));
    }

    /** Script sees what is changed but for the place of the hand: that is seen by going on with it. */
    private static void questionsChangeNothing() {
        String[] questions = {"ofPart(0) -> 0", "ofPart(3) -> 3", "ofPart(4) -> 905", "ofPart(5) -> 1511",
            "partText() -> \"5-9:3 0-12:4 11-15:5\"", "ofBook(0, 0) -> 5", "ofBook(0, 5) -> 4616",
            "noteOf(0, 2, 6, 50) -> 2", "noteOf(0, 2, 7, 50) -> 50", "has(0, 2, 6) -> true",
            "has(0, 2, 7) -> false", "hasNote(0, 3) -> true", "near(0, 5, 9, 0) -> 602",
            "near(0, 5, 9, 5) -> 3", "many(0, 5, 9, 1) -> 3", "between(0, 2, 6, 5, 9) -> 2",
            "text(0, true) -> \"11-15:5 0-12:4 5-9:3 2-6:2 1-4:1\"", "areSame(0, 1) -> false",
            "areSame(0, 0) -> true", "most(0) -> 3", "chosen(0, 2) -> 1511", "choice(0, 21) -> 3",
            "choice(0, 31) -> -1", "unheld(0, 21) -> 0", "holders(0, 4) -> 11", "deepest(0, true) -> 2",
            "deepest(0, false) -> 3", "rooms(0) -> 3", "roomOf(0, 5, 9) -> 1", "links(0, 1, 15) -> 2",
            "link(0, 1, 15, 1) -> 1511", "links(0, 1, 16) -> -1", "house(0) -> 6", "house(2) -> 1",
            "isSound() -> true", "digest()"};
        for (String question : questions) {
            goesOn(question, question);
            goesOnOverAnother(question);
        }
        goesOn("47 knock", "knock() -> 1");
        goesOnOverAnother("knock() -> 1");
    }

    private static void otherChanges() {
        goesOn("33 between that is refused", "between(0, 5, 9, 2, 6) -> -9");
        goesOn("5 change", "change(0, 5, 9, 3) -> 3");
        goesOn("6 changeIf", "changeIf(0, 5, 9, 4, 9) -> 0");
        goesOn("16 narrow", "narrow(9, 15) -> 3");
        goesOn("16 narrow to one", "narrow(15, 15) -> 1");
        goesOn("16 narrow that is refused", "narrow(8, 15) -> -9");
        goesOn("15 part", "part(1, -1, -1) -> 1");
        goesOn("17 partPut of one that is there", "partPut(5, 9, 3) -> 3");
        goesOn("14 sift of another book by that of the hand", "sift(1, 0, false) -> 1");
        goesOn("14 sift of another book by that of the hand", "sift(1, 0, true) -> 0");
        goesOn("12 pour of the book of the hand", "pour(2, 0) -> 5");
        goesOn("13 copy of the book of the hand", "copy(2, 0) -> 5");
    }

    private static void goesOn(String title, String line) {
        Script.run("the hand goes on behind " + title, Edge.join(HELD, line, "house(2) -> 1",
            "renote(11) -> 1", "next() -> 602", "takeOut() -> 4", "next() -> 905",
            "text(0, false) -> \"1-4:11 5-9:3 0-12:4 11-15:5\""));
    }

    private static void goesOnOverAnother(String question) {
        Script.run("the hand over another book goes on behind " + question, Edge.join(PARTED,
            "hand(1) -> 1", "next() -> 602", question, "house(2) -> 1", "renote(11) -> 70",
            "next() -> -1", "takeOut() -> 0"));
    }

    private static void handGoesOn() {
        Script.run("26 takeOut of each second one", Edge.join(HELD, "next() -> 602", "takeOut() -> 4",
            "next() -> 905", "next() -> 1200", "takeOut() -> 3", "next() -> 1511", "renote(55) -> 5",
            "next() -> -1", "renote(56) -> 55", "text(0, false) -> \"1-4:1 5-9:3 11-15:56\"",
            "house(3) -> 0"));
        Script.run("26 takeOut of the last one but one, of five", Edge.join(HELD, "next() -> 602",
            "next() -> 905", "next() -> 1200", "takeOut() -> 4", "next() -> 1511", "next() -> -1",
            "takeOut() -> 3", "next() -> -1", "takeOut() -> -9",
            "text(0, false) -> \"1-4:1 2-6:2 5-9:3\""));
        Script.run("26 takeOut of the first two", Edge.join(HELD, "takeOut() -> 4", "next() -> 602",
            "takeOut() -> 3", "next() -> 905", "next() -> 1200", "next() -> 1511", "next() -> -1"));
        Script.run("24 a hand that took the last one out, then is lost", Edge.join(HELD, "next() -> 602",
            "next() -> 905", "next() -> 1200", "next() -> 1511", "takeOut() -> 4", "next() -> -1",
            "house(2) -> 1", "draw(0, false) -> 401", "house(2) -> 2", "next() -> -9",
            "renote(1) -> -9", "takeOut() -> -9", "house(3) -> 3"));
        Script.run("25 renote of the same span again and again", Edge.join(HELD, "renote(9) -> 1",
            "put(0, 1, 4, 8) -> 9", "renote(7) -> 8", "more(0, 1, 4, 5) -> 12", "renote(99) -> 12",
            "noteOf(0, 1, 4, -1) -> 99", "noteOf(0, 2, 6, -1) -> 2"));
    }

    /** Of eight spans each one is taken out in turn; the hand gives all the others, in sequence. */
    private static void handGoesOnBehindEach() {
        int[] codes = {0, 100, 101, 202, 303, 9900, 9950, 9999};
        for (int out = 0; out < codes.length; out++) {
            Earlyends x = new Earlyends();
            for (int code : codes) {
                x.put(2, code % 100, code / 100, 50);
            }
            due("23 hand", 8, x.hand(2));
            for (int i = 0; i < codes.length; i++) {
                due("24 next " + i + ", out " + out, codes[i], x.next());
                if (i == out) {
                    due("26 takeOut " + i, 7, x.takeOut());
                    due("25 renote behind takeOut " + i, -9, x.renote(i));
                } else {
                    due("25 renote " + i + ", out " + out, 50, x.renote(i));
                }
            }
            due("24 next of all, out " + out, -1, x.next());
            due("46 house(2), out " + out, 1, x.house(2));
            for (int i = 0; i < codes.length; i++) {
                int note = x.noteOf(2, codes[i] % 100, codes[i] / 100, -1);
                due("28 noteOf " + i + ", out " + out, i == out ? -1 : i, note);
            }
        }
    }

    /** One book has the hand, another one what comes and goes, with the same spans in both. */
    private static void handBesideOthers() {
        String[] both = Edge.join(FIVE, "copy(1, 0) -> 5", "copy(2, 0) -> 5", "hand(1) -> 5",
            "next() -> 401");
        String[] elsewhere = {"put(0, 3, 3, 3)", "add(2, 3, 3, 3)", "more(0, 3, 3, 3)",
            "take(2, 1, 4)", "takeIf(0, 1, 4, 1)", "takeNote(2, 1)", "draw(0, false)", "clear(2)",
            "pour(0, 1)", "copy(2, 1)", "sift(0, 1, false)", "sift(2, 1, true)"};
        for (String call : elsewhere) {
            Script.run("24 another book does not matter: " + call, Edge.join(both, call,
                "house(2) -> 1", "next() -> 602", "takeOut() -> 4", "next() -> 905"));
        }
        String[] ofPart = {"partPut(3, 3, 3)", "partTake(1, 4)", "partDraw(false)", "partClear()"};
        for (String call : ofPart) {
            Script.run("24 the part of another book does not matter: " + call, Edge.join(both,
                "part(2, -1, 9)", call, "house(2) -> 1", "next() -> 602", "takeOut() -> 4"));
            Script.run("24 the part of its book does: " + call, Edge.join(both,
                "part(1, -1, 9)", call, "house(2) -> 2", "next() -> -9", "takeOut() -> -9"));
        }
    }

    /** Whatever comes back, even all that was there with its notes, the hand stays lost. */
    private static void lostForGood() {
        String[] lines = {"take(0, 5, 9)", "put(0, 5, 9, 3)", "copy(2, 0)", "clear(0)", "pour(0, 2)",
            "sift(0, 1, true)", "clear(0)", "pour(0, 2)", "copy(0, 2)", "copy(0, 0)"};
        for (int n = 2; n <= lines.length; n++) {
            String[] first = Edge.join(HELD, java.util.Arrays.copyOf(lines, n));
            Script.run("24 lost for good behind " + lines[n - 1], Edge.join(first, "house(2) -> 2",
                "next() -> -9", "renote(1) -> -9", "takeOut() -> -9", "house(2) -> 2"));
        }
    }

    /** Spans come and go n times in all, and the hand does not find its way again at any n. */
    private static void lostByManyMoves() {
        for (int n = 1; n <= 500; n++) {
            Earlyends x = new Earlyends();
            x.put(0, 1, 4, 1);
            x.hand(0);
            x.next();
            for (int i = 0; i < n; i++) {
                int got = i % 2 == 0 ? x.put(0, 5, 9, 2) : x.take(0, 5, 9);
                due("put or take " + i, i % 2 == 0 ? -1 : 2, got);
            }
            due("24 next behind " + n + " that came or went", -9, x.next());
        }
        Earlyends full = new Earlyends();
        for (int i = 0; i < 8; i++) {
            full.put(1, i, i, i);
        }
        full.hand(0);
        for (int i = 1; i <= 120; i++) {
            due("pour " + i, 8, full.pour(0, 1));
            due("house(2) behind pour " + i, 2, full.house(2));
            due("clear " + i, 8, full.clear(0));
            due("next behind clear " + i, -9, full.next());
        }
    }

    private static void farBeyond() {
        String[] far = {"5", "7", "8", "15", "16", "31", "32", "63", "64", "127", "128", "255", "256",
            "257", "65535", "65536", "65537", "16777216", "1073741824", "2147483646"};
        for (String k : far) {
            Script.run("37 and 45, k that is far beyond", Edge.join(FIVE, "chosen(0, " + k + ") -> -1",
                "link(0, 1, 15, " + k + ") -> -1"));
        }
        String[] none = {"32", "63", "64", "128", "255", "256", "65536", "16777216", "1073741824"};
        for (String set : none) {
            Script.run("38 and 39, a rank that is far beyond", Edge.join(FIVE,
                "choice(0, " + set + ") -> " + Edge.ARGUMENT,
                "unheld(0, " + set + ") -> " + Edge.ARGUMENT));
        }
    }

    /** Books with as many spans and the same check, yet not the same. */
    private static void sameCheck() {
        Script.run("35 areSame, the same check, another span", "put(0, 3, 7, 1)", "put(1, 2, 7, 0)",
            "ofBook(0, 5) -> 702", "ofBook(1, 5) -> 702", "areSame(0, 1) -> false",
            "areSame(1, 0) -> false");
        Script.run("35 areSame, the same check, the notes of two spans the other way round",
            "put(0, 0, 0, 1)", "put(0, 0, 1, 2)", "put(1, 0, 0, 2)", "put(1, 0, 1, 1)",
            "ofBook(0, 5) -> 103", "ofBook(1, 5) -> 103", "areSame(0, 1) -> false",
            "areSame(1, 0) -> false");
        Script.run("35 areSame, in whatever order they came", "put(0, 0, 0, 1)", "put(0, 0, 1, 2)",
            "put(0, 4, 9, 3)", "put(1, 4, 9, 3)", "put(1, 0, 1, 2)", "put(1, 0, 0, 1)",
            "areSame(0, 1) -> true", "areSame(1, 0) -> true");
    }

    private static void partAndHandTogether() {
        Script.run("a part and a hand over one book", Edge.join(HELD, "next() -> 602", "next() -> 905",
            "takeOut() -> 4", "partText() -> \"0-12:4 11-15:5\"", "next() -> 1200", "renote(44) -> 4",
            "partText() -> \"0-12:44 11-15:5\"", "partDraw(false) -> 1200", "next() -> -9",
            "partText() -> \"11-15:5\"", "copy(0, 0) -> 3", "house(1) -> -1", "house(2) -> 2"));
        Script.run("a copy into the book of both", Edge.join(HELD, "copy(0, 1) -> 1", "house(1) -> -1",
            "house(2) -> 2", "text(0, false) -> \"2-6:70\""));
        Script.run("a copy into the book of the part alone", Edge.join(HELD, "part(1, -1, -1) -> 1",
            "copy(1, 0) -> 5", "house(1) -> -1", "house(2) -> 1", "next() -> 602"));
        Script.run("a copy into the book of the hand alone", Edge.join(HELD, "part(1, -1, -1) -> 1",
            "copy(0, 1) -> 1", "house(1) -> 1", "partText() -> \"2-6:70\"", "house(2) -> 2"));
        Script.run("another hand does not touch the part, another part does not touch the hand",
            Edge.join(HELD, "hand(0) -> 5", "house(1) -> 0", "ofPart(1) -> 9", "ofPart(2) -> 15",
            "hand(2) -> 0", "house(1) -> 0", "hand(0) -> 5", "next() -> 401", "part(0, 4, 4) -> 1",
            "part(2, -1, -1) -> 0", "house(2) -> 1", "next() -> 602"));
    }
}
