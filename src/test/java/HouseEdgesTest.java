import java.lang.reflect.Field;
import java.math.BigInteger;
import java.util.ArrayList;
import java.util.List;

/** The boundaries of the house, promises 46 to 49, and of the 512 calls of an object. */
public final class HouseEdgesTest {
    private static int wrong = 0;

    private HouseEdgesTest() {
    }

    public static void main(String[] args) throws ReflectiveOperationException {
        houseOfNoneAndAll();
        told();
        lastCalls();
        sound();
        wrapping();
        digestsOfCalls();
        unsound();
        if (wrong != 0) {
            System.exit(1);
        }
        Script.end();
    }

    private static void houseOfNoneAndAll() {
        Script.run("46 house, no spans, one, and all books full", "house(0) -> 0",
            "put(2, 0, 0, 0)", "house(0) -> 1", "put(2, 1, 1, 0)", "put(2, 2, 2, 0)", "put(2, 3, 3, 0)",
            "put(2, 4, 4, 0)", "put(2, 5, 5, 0)", "put(2, 6, 6, 0)", "put(2, 7, 7, 0)", "house(0) -> 8",
            "copy(1, 2) -> 8", "copy(0, 1) -> 8", "house(0) -> 24", "put(2, 8, 8, 0) -> -9",
            "house(0) -> 24", "clear(0)", "house(0) -> 16");
        for (int book = 0; book <= 2; book++) {
            Script.run("46 house, the book of the part", "house(1) -> -1", "part(" + book + ", -1, -1)",
                "house(1) -> " + book, "hand(" + (book + 1) % 3 + ")", "house(1) -> " + book,
                "copy(" + book + ", " + book + ")", "house(1) -> -1");
        }
        Script.run("46 house, without a hand, with one, and with a lost one", "put(0, 0, 0, 0)",
            "house(2) -> 0", "hand(0)", "house(2) -> 1", "next()", "next() -> -1", "house(2) -> 1",
            "takeOut()", "house(2) -> 1", "put(0, 0, 0, 0)", "house(2) -> 2", "hand(1)",
            "house(2) -> 1", "copy(1, 1)", "house(2) -> 2", "hand(1)", "house(2) -> 1");
        Script.run("47 knock, the first and the next", "house(4) -> 0", "knock() -> 1", "house(4) -> 1",
            "knock() -> 2", "house(4) -> 2", "house(3) -> 0", "house(0) -> 0");
    }

    /** Each -9 is counted once; NONE and exceptions are not counted. */
    private static void told() {
        Script.run("46 house, how often -9 was told", "put(0, 3, 7, 1)", "put(0, 1, 9, 2)",
            "take(0, 3, 8) -> -1", "draw(1, true) -> -1", "near(0, 0, 0, 0) -> -1",
            "between(0, 3, 7, 3, 6) -> -9", "house(3) -> 1", "part(0, 7, 7)", "partTake(1, 9) -> -1",
            "narrow(6, 7) -> -9", "house(3) -> 2", "partPut(1, 9, 3) -> -9", "house(3) -> 3",
            "hand(0)", "renote(1) -> -9", "house(3) -> 4", "takeOut() -> -9", "house(3) -> 5",
            "copy(0, 0)", "next() -> -9", "house(3) -> 6", "house(5) -> throws.IllegalArgumentException",
            "house(3) -> 6");
    }

    private static void lastCalls() {
        Earlyends knocked = new Earlyends();
        for (int i = 1; i <= 512; i++) {
            due("knock() " + i, i, knocked.knock());
        }
        Earlyends refusing = new Earlyends();
        for (int i = 1; i <= 511; i++) {
            due("between() " + i, -9, refusing.between(0, 1, 1, 0, 0));
        }
        due("house(3) as call 512", 511, refusing.house(3));
        Earlyends moved = new Earlyends();
        moved.hand(0);
        for (int i = 2; i <= 511; i++) {
            boolean isPut = i % 2 == 0;
            int got = isPut ? moved.put(0, 1, 1, 5) : moved.take(0, 1, 1);
            due("put() and take() " + i, isPut ? -1 : 5, got);
        }
        due("next() as call 512", -9, moved.next());
    }

    private static void sound() {
        Script.run("48 isSound, of none, one and eight", "isSound() -> true", "put(0, 99, 99, 0)",
            "isSound() -> true", "put(0, 0, 0, 0)", "isSound() -> true", "put(0, 0, 99, 0)",
            "put(0, 1, 50, 0)", "put(0, 50, 98, 0)", "put(0, 51, 98, 0)", "put(0, 2, 2, 0)",
            "put(0, 50, 50, 0)", "isSound() -> true", "put(0, 3, 3, 0) -> -9", "isSound() -> true",
            "copy(1, 0)", "copy(2, 0)", "take(2, 0, 99)", "isSound() -> true", "part(2, 50, -1)",
            "isSound() -> true", "part(1, -1, -1)", "isSound() -> true", "clear(1)", "isSound() -> true");
        Script.run("48 isSound, links with and without a gap", "put(0, 0, 3, 0)", "put(0, 5, 9, 0)",
            "isSound() -> true", "put(0, 4, 4, 0)", "isSound() -> true", "put(0, 2, 6, 0)",
            "isSound() -> true", "put(0, 0, 9, 0)", "isSound() -> true");
    }

    /** The answers are sums reckoned without wrapping (236 bits and more), then cut to 64 bits. */
    private static void wrapping() {
        Script.run("49 digest, wraps around", "digest() -> 5761669707022846615",
            "knock() -> 1", "digest() -> -5096603361229539944", "knock() -> 2",
            "digest() -> 2491867644227625113");
        Script.run("49 digest, without a part and with one", "digest() -> 5761669707022846615",
            "part(2, -1, -1)", "digest() -> -684231272135428362", "copy(2, 2)",
            "digest() -> 5761669707022846615");
    }

    private static void digestsOfCalls() {
        Earlyends x = new Earlyends();
        digest("empty", x, 1);
        x.put(0, 0, 3, 7);
        digest("one span", x, 1);
        x.part(0, 3, -1);
        x.put(0, 2, 4, 0);
        x.put(0, 6, 6, 99);
        x.put(0, 8, 9, 5);
        digest("four chosen or not", x, 1);
        x.hand(2);
        x.copy(2, 0);
        x.put(2, 0, 99, 1);
        x.next();
        x.knock();
        digest("a lost hand", x, 1);
        x.part(2, -1, 99);
        x.put(2, 1, 99, 1);
        x.put(2, 2, 99, 1);
        x.put(2, 99, 99, 1);
        x.put(2, 98, 99, 1);
        digest("a full book", x, 1);
        x.copy(2, 1);
        digest("the part gone", x, 1);
    }

    private static void digest(String what, Earlyends x, int sound) {
        due("49 digest, " + what, reckoned(x, sound), x.digest());
        due("49 digest again, " + what, reckoned(x, sound), x.digest());
    }

    private static long reckoned(Earlyends x, int sound) {
        BigInteger d = BigInteger.valueOf(7945);
        for (int value : values(x, sound)) {
            d = d.multiply(BigInteger.valueOf(31)).add(BigInteger.valueOf(value));
        }
        return d.longValue();
    }

    private static List<Integer> values(Earlyends x, int sound) {
        List<Integer> values = new ArrayList<>();
        for (int what = 0; what <= 4; what++) {
            values.add(x.house(what));
        }
        for (int book = 0; book <= 2; book++) {
            for (int what = 0; what <= 5; what++) {
                values.add(x.ofBook(book, what));
            }
            values.addAll(List.of(x.most(book), x.chosen(book, 0), x.chosen(book, 1), x.chosen(book, 2),
                x.deepest(book, false), x.deepest(book, true), x.rooms(book)));
            for (String span : x.text(book, false).split(" ")) {
                if (!span.isEmpty()) {
                    addSpan(values, x, book, span);
                }
            }
        }
        for (int what = 0; x.house(1) != -1 && what <= 5; what++) {
            values.add(x.ofPart(what));
        }
        values.add(sound);
        return values;
    }

    private static void addSpan(List<Integer> values, Earlyends x, int book, String span) {
        String[] words = span.split("[-:]");
        int from = Integer.parseInt(words[0]);
        int to = Integer.parseInt(words[1]);
        values.addAll(List.of(100 * to + from, Integer.parseInt(words[2]), x.roomOf(book, from, to),
            x.near(book, from, to, 0), x.near(book, from, to, 3)));
    }

    /** No run of calls makes an object that is not sound, so the codes of one book are upset from outside. */
    private static void unsound() throws ReflectiveOperationException {
        for (int book = 0; book <= 2; book++) {
            Earlyends x = new Earlyends();
            x.put(book, 1, 3, 1);
            x.put(book, 2, 5, 2);
            x.put((book + 1) % 3, 0, 0, 0);
            int[] codes = codesOf(x, book);
            codes[0] = 501;
            due("48 isSound, codes that rise by one", 1, x.isSound() ? 1 : 0);
            codes[0] = 502;
            due("48 isSound, the same code twice", 0, x.isSound() ? 1 : 0);
            codes[0] = 503;
            due("48 isSound, codes that fall", 0, x.isSound() ? 1 : 0);
            digest("0 if it is not sound", x, 0);
            codes[0] = 301;
            due("48 isSound, as before", 1, x.isSound() ? 1 : 0);
            digest("1 if it is sound", x, 1);
        }
    }

    private static int[] codesOf(Earlyends x, int book) throws ReflectiveOperationException {
        return (int[]) inside(((Object[]) inside(x, "books"))[book], "codes");
    }

    private static Object inside(Object owner, String name) throws ReflectiveOperationException {
        Field field = owner.getClass().getDeclaredField(name);
        field.setAccessible(true);
        return field.get(owner);
    }

    private static void due(String what, long due, long got) {
        if (due != got) {
            wrong++;
            System.out.println(what + ": answered " + got + ", due was " + due);
        }
    }
}
