import java.lang.reflect.Constructor;
import java.lang.reflect.Field;
import java.lang.reflect.Method;
import java.lang.reflect.Modifier;
import java.util.Set;
import java.util.TreeSet;

/** The public face, and rule 1 of LANGUAGE.md: that face and nothing more. */
public final class FaceTest {
    private static final String INDEX = " IndexOutOfBoundsException";
    private static final String INDEX_ARGUMENT = INDEX + " IllegalArgumentException";
    private static final String ARGUMENT_STATE = " IllegalArgumentException IllegalStateException";
    private static final String STATE = " IllegalStateException";
    private static final String[] FACE = {
        "int put(int int int int)" + INDEX_ARGUMENT,
        "int add(int int int int)" + INDEX_ARGUMENT,
        "int more(int int int int)" + INDEX_ARGUMENT,
        "int change(int int int int)" + INDEX_ARGUMENT,
        "int changeIf(int int int int int)" + INDEX_ARGUMENT,
        "int take(int int int)" + INDEX_ARGUMENT,
        "int takeIf(int int int int)" + INDEX_ARGUMENT,
        "int takeNote(int int)" + INDEX_ARGUMENT,
        "int draw(int boolean)" + INDEX,
        "int clear(int)" + INDEX,
        "int pour(int int)" + INDEX,
        "int copy(int int)" + INDEX,
        "int sift(int int boolean)" + INDEX_ARGUMENT,
        "int part(int int int)" + INDEX_ARGUMENT,
        "int narrow(int int)" + ARGUMENT_STATE,
        "int partPut(int int int)" + ARGUMENT_STATE,
        "int partTake(int int)" + ARGUMENT_STATE,
        "int partDraw(boolean)" + STATE,
        "int partClear()" + STATE,
        "int ofPart(int)" + ARGUMENT_STATE,
        "String partText()" + STATE,
        "int hand(int)" + INDEX,
        "int next()" + STATE,
        "int renote(int)" + ARGUMENT_STATE,
        "int takeOut()" + STATE,
        "int ofBook(int int)" + INDEX_ARGUMENT,
        "int noteOf(int int int int)" + INDEX_ARGUMENT,
        "boolean has(int int int)" + INDEX_ARGUMENT,
        "boolean hasNote(int int)" + INDEX_ARGUMENT,
        "int near(int int int int)" + INDEX_ARGUMENT,
        "int many(int int int int)" + INDEX_ARGUMENT,
        "int between(int int int int int)" + INDEX_ARGUMENT,
        "String text(int boolean)" + INDEX,
        "boolean areSame(int int)" + INDEX,
        "int most(int)" + INDEX,
        "int chosen(int int)" + INDEX_ARGUMENT,
        "int choice(int int)" + INDEX_ARGUMENT,
        "int unheld(int int)" + INDEX_ARGUMENT,
        "int holders(int int)" + INDEX_ARGUMENT,
        "int deepest(int boolean)" + INDEX,
        "int rooms(int)" + INDEX,
        "int roomOf(int int int)" + INDEX_ARGUMENT,
        "int links(int int int)" + INDEX_ARGUMENT,
        "int link(int int int int)" + INDEX_ARGUMENT,
        "int house(int) IllegalArgumentException",
        "int knock()",
        "boolean isSound()",
        "long digest()"};

    private static int wrong = 0;

    private FaceTest() {
    }

    public static void main(String[] args) {
        methods();
        constructors();
        othersArePrivate();
        noPublicNameTwice();
        System.out.println(wrong + " wrong");
        if (wrong != 0) {
            System.exit(1);
        }
    }

    private static void methods() {
        Set<String> due = new TreeSet<>(Set.of(FACE));
        Set<String> seen = new TreeSet<>();
        for (Method method : Earlyends.class.getDeclaredMethods()) {
            if (!Modifier.isPrivate(method.getModifiers())) {
                check(method.getModifiers() == Modifier.PUBLIC, method + " is public alone");
                seen.add(signature(method));
            }
        }
        check(seen.equals(due), "the face is " + seen);
    }

    private static String signature(Method method) {
        StringBuilder text = new StringBuilder();
        text.append(method.getReturnType().getSimpleName()).append(' ').append(method.getName());
        text.append('(');
        for (Class<?> type : method.getParameterTypes()) {
            text.append(text.charAt(text.length() - 1) == '(' ? "" : " ").append(type.getSimpleName());
        }
        text.append(')');
        for (Class<?> type : method.getExceptionTypes()) {
            text.append(' ').append(type.getSimpleName());
        }
        return text.toString();
    }

    private static void constructors() {
        Constructor<?>[] all = Earlyends.class.getDeclaredConstructors();
        check(all.length == 1 && all[0].getModifiers() == Modifier.PUBLIC
            && all[0].getParameterCount() == 0, "one public constructor without parameters");
        int modifiers = Earlyends.class.getModifiers();
        check(modifiers == (Modifier.PUBLIC | Modifier.FINAL), "the class is public and final");
    }

    private static void othersArePrivate() {
        for (Field field : Earlyends.class.getDeclaredFields()) {
            check(Modifier.isPrivate(field.getModifiers()), field + " is private");
        }
        for (Class<?> inner : Earlyends.class.getDeclaredClasses()) {
            check(Modifier.isStatic(inner.getModifiers()), inner + " is static");
            check(!Modifier.isPublic(inner.getModifiers()), inner + " is not public");
        }
    }

    private static void noPublicNameTwice() {
        Set<String> names = new TreeSet<>();
        for (String line : FACE) {
            names.add(line.substring(line.indexOf(' ') + 1, line.indexOf('(')));
        }
        check(names.size() == FACE.length, "each public name is there once");
        for (Method method : Earlyends.class.getDeclaredMethods()) {
            boolean isPrivate = Modifier.isPrivate(method.getModifiers());
            check(!isPrivate || !names.contains(method.getName()), method + " has its own name");
        }
        for (Class<?> inner : Earlyends.class.getDeclaredClasses()) {
            for (Method method : inner.getDeclaredMethods()) {
                check(!names.contains(method.getName()), method + " has its own name");
            }
        }
    }

    private static void check(boolean isSo, String what) {
        if (!isSo) {
            wrong++;
            System.out.println("not so: " + what);
        }
    }
}
