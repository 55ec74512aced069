import java.lang.reflect.InvocationTargetException;
import java.lang.reflect.Method;
import java.util.ArrayList;
import java.util.HashMap;
import java.util.List;
import java.util.Map;
import java.util.Set;

/**
 * Runs written calls on a new object: a line is "call(arguments) -> answer", where an answer is a
 * number, true, false, a text in quotes, or throws.NameOfException. A line without an arrow is
 * called for its effect alone, so it must neither throw nor answer -9. Beside each answer it is
 * checked that a call that throws or that just asks changes nothing, and that one that answers -9
 * changes nothing but the count of it.
 */
final class Script {
    private static final int MOST_CALLS = 512;
    private static final Set<String> ASKING = Set.of("ofPart", "partText", "ofBook", "noteOf", "has",
        "hasNote", "near", "many", "between", "text", "areSame", "most", "chosen", "choice", "unheld",
        "holders", "deepest", "rooms", "roomOf", "links", "link", "house", "isSound", "digest");
    private static final Map<String, Method> METHODS = new HashMap<>();
    private static int wrong = 0;
    private static int lines = 0;

    static {
        for (Method method : Earlyends.class.getDeclaredMethods()) {
            METHODS.put(method.getName() + method.getParameterCount(), method);
        }
    }

    private final Earlyends object = new Earlyends();
    private final String title;
    private int calls = 0;

    private Script(String title) {
        this.title = title;
    }

    static void run(String title, String... written) {
        Script script = new Script(title);
        List<String> before = script.look();
        for (String line : written) {
            before = script.step(line, before);
        }
        if (script.calls > MOST_CALLS) {
            script.fault("the script needs " + script.calls + " calls");
        }
    }

    /** Ends the test: with exit code 1 if a line was wrong. */
    static void end() {
        System.out.println(lines + " lines, " + wrong + " wrong");
        if (wrong != 0 || lines == 0) {
            System.exit(1);
        }
    }

    private List<String> step(String line, List<String> before) {
        lines++;
        String[] sides = line.split(" -> ", 2);
        String got = answer(sides[0].trim());
        if (sides.length == 2 && !got.equals(sides[1].trim())) {
            fault(line + ": answered " + got);
        }
        List<String> after = look();
        int told = Integer.parseInt(after.get(0)) - Integer.parseInt(before.get(0));
        if (told != (got.equals("-9") ? 1 : 0)) {
            fault(line + ": -9 was counted " + told + " times");
        }
        boolean isRefused = got.equals("-9") || got.startsWith("throws.");
        if (isRefused && sides.length < 2) {
            fault(line + ": has no effect, it answered " + got);
        }
        boolean isStill = isRefused || ASKING.contains(line.substring(0, line.indexOf('(')));
        int size = before.size();
        if (isStill && !before.subList(1, size).equals(after.subList(1, after.size()))) {
            fault(line + ": changed " + before + " to " + after);
        }
        return after;
    }

    private List<String> look() {
        List<String> seen = new ArrayList<>();
        seen.add(answer("house(3)"));
        for (String call : List.of("text(0, false)", "text(1, false)", "text(2, false)",
                "house(1)", "house(2)", "house(4)")) {
            seen.add(answer(call));
        }
        if (!seen.get(4).equals("-1")) {
            seen.add(answer("ofPart(1)"));
            seen.add(answer("ofPart(2)"));
        }
        return seen;
    }

    private String answer(String call) {
        calls++;
        String name = call.substring(0, call.indexOf('('));
        String inside = call.substring(call.indexOf('(') + 1, call.lastIndexOf(')')).trim();
        String[] words = inside.isEmpty() ? new String[0] : inside.split(",");
        Method method = methodOf(name, words.length);
        Object[] arguments = new Object[words.length];
        for (int i = 0; i < words.length; i++) {
            boolean isBoolean = method.getParameterTypes()[i] == boolean.class;
            String word = words[i].trim();
            arguments[i] = isBoolean ? (Object) Boolean.valueOf(word) : Integer.valueOf(word);
        }
        try {
            Object got = method.invoke(object, arguments);
            return got instanceof String ? '"' + (String) got + '"' : String.valueOf(got);
        } catch (InvocationTargetException e) {
            return "throws." + e.getCause().getClass().getSimpleName();
        } catch (IllegalAccessException e) {
            throw new IllegalStateException(e);
        }
    }

    private static Method methodOf(String name, int parameters) {
        Method method = METHODS.get(name + parameters);
        if (method == null) {
            throw new IllegalStateException("no method " + name + " with " + parameters + " parameters");
        }
        return method;
    }

    private void fault(String what) {
        wrong++;
        System.out.println(title + ": " + what);
    }
}
