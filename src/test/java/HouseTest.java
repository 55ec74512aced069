import java.lang.reflect.Field;

/** Promises 46 to 49: the house. */
public final class HouseTest {
    private static final String WRONG = " -> throws.IllegalArgumentException";
    private static int wrong = 0;

    private HouseTest() {
    }

    public static void main(String[] args) throws ReflectiveOperationException {
        house();
        knocking();
        sound();
        digests();
        unsoundWhenUpset();
        if (wrong != 0) {
            System.exit(1);
        }
        Script.end();
    }

    private static void house() {
        Script.run("46 house", "house(0) -> 0", "put(0, 1, 1, 1)", "put(2, 1, 1, 1)",
            "put(2, 1, 2, 1)", "house(0) -> 3", "house(1) -> -1", "part(2, -1, -1)",
            "house(1) -> 2", "house(2) -> 0", "hand(2)", "house(2) -> 1", "next()", "takeOut()",
            "house(2) -> 1", "house(0) -> 2", "draw(2, true)", "house(2) -> 2", "copy(2, 0)",
            "house(1) -> -1", "house(2) -> 2", "house(3) -> 0", "next() -> -9", "house(3) -> 1",
            "between(0, 1, 1, 0, 0) -> -9", "house(3) -> 2", "house(4) -> 0",
            "house(5)" + WRONG, "house(-1)" + WRONG);
    }

    private static void knocking() {
        Script.run("47 knock", "knock() -> 1", "knock() -> 2", "house(4) -> 2", "knock() -> 3",
            "put(0, 3, 2, 1)" + WRONG, "house(4) -> 3", "house(3) -> 0");
    }

    private static void sound() {
        Script.run("48 isSound", "isSound() -> true", "put(0, 0, 3, 1)", "isSound() -> true",
            "put(0, 2, 5, 1)", "put(0, 9, 9, 1)", "isSound() -> true", "part(0, 4, 5)",
            "isSound() -> true", "put(1, 99, 99, 1)", "put(1, 0, 99, 1)", "isSound() -> true");
    }

    private static void digests() {
        long d = 7945;
        long[] empty = {0, -1, 0, 0, 0};
        long[] emptyBook = {0, -1, -1, -1, -1, 0, 0, -1, -1, -1, 0, -1, 0};
        d = then(d, empty);
        d = then(then(then(d, emptyBook), emptyBook), emptyBook);
        Script.run("49 digest, empty", "digest() -> " + (d * 31 + 1));
        long[] house = {3, 1, 2, 1, 2};
        long[] first = {2, 301, 502, 7, 99, (301 ^ 7) + (502 ^ 99), 1, 301, -1, -1, 2, 2, 2};
        long[] firstSpans = {301, 7, 0, -1, 502, 502, 99, 1, 301, -1};
        long[] second = {1, 9999, 9999, 0, 0, 9999, 1, 9999, -1, -1, 1, 99, 1, 9999, 0, 0, -1, -1};
        long[] part = {1, -1, 99, 1, 9999, 9999, 1};
        d = then(then(then(7945, house), first), firstSpans);
        d = then(then(then(d, second), emptyBook), part);
        Script.run("49 digest", "hand(0)", "put(0, 1, 3, 7)", "put(0, 2, 5, 99)",
            "put(1, 99, 99, 0)", "part(1, -1, 99)", "knock()", "knock()",
            "between(0, 1, 1, 0, 1) -> -9", "digest() -> " + d, "digest() -> " + d);
    }

    private static long then(long start, long[] values) {
        long d = start;
        for (long value : values) {
            d = d * 31 + value;
        }
        return d;
    }

    /** No run of calls makes an object that is not sound, so its state is upset from outside. */
    private static void unsoundWhenUpset() throws ReflectiveOperationException {
        Earlyends x = new Earlyends();
        x.put(0, 0, 3, 1);
        x.put(0, 2, 5, 1);
        Object book = ((Object[]) inside(x, "books"))[0];
        int[] codes = (int[]) inside(book, "codes");
        codes[0] = 506;
        due("isSound() with codes that fall", x.isSound());
        codes[0] = 502;
        due("isSound() with the same code twice", x.isSound());
        codes[0] = 5;
        due("isSound() with a span that ends ahead of its from", x.isSound());
    }

    private static Object inside(Object owner, String name) throws ReflectiveOperationException {
        Field field = owner.getClass().getDeclaredField(name);
        field.setAccessible(true);
        return field.get(owner);
    }

    private static void due(String what, boolean isTold) {
        if (isTold) {
            wrong++;
            System.out.println(what + " answered true");
        }
    }
}
