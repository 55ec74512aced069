import java.lang.reflect.InvocationTargetException;
import java.lang.reflect.Method;
import java.util.ArrayList;
import java.util.Comparator;
import java.util.List;
import java.util.Random;

/** Long runs of calls, the same ones each time, with the answers of the model beside those of the program. */
public final class ModelTest {
    private static final int RUNS = 600;
    private static final int CALLS = 512;
    private static final List<String> MAKERS = List.of("put", "add", "more", "partPut", "pour");
    private static final List<String> EMPTIERS = List.of("clear", "copy", "sift", "partClear");

    private final Random random;
    private final int places;
    private final List<Method> methods = new ArrayList<>();
    private final Earlyends object = new Earlyends();
    private final Model model = new Model();

    private ModelTest(int run) {
        random = new Random(run);
        places = new int[] {4, 10, 20, 100}[run % 4];
        for (Method method : Earlyends.class.getDeclaredMethods()) {
            if (java.lang.reflect.Modifier.isPublic(method.getModifiers())) {
                methods.add(method);
            }
        }
        methods.sort(Comparator.comparing(Method::getName));
    }

    public static void main(String[] args) throws ReflectiveOperationException {
        for (int run = 0; run < RUNS; run++) {
            new ModelTest(run).run(run);
        }
        System.out.println(RUNS + " runs of " + CALLS + " calls agree with the model");
    }

    private void run(int run) throws ReflectiveOperationException {
        for (int call = 0; call < CALLS; call++) {
            boolean isLook = call % 8 == 7;
            Method method = isLook ? Earlyends.class.getMethod("digest") : someMethod();
            if (!agrees(method)) {
                System.out.println("in call " + call + " of run " + run);
                System.exit(1);
            }
        }
        if (run % 20 == 0 && !model.isSound()) {
            System.out.println("the model is not sound after run " + run);
            System.exit(1);
        }
    }

    private Method someMethod() {
        Method method = methods.get(random.nextInt(methods.size()));
        if (random.nextInt(3) == 0) {
            String maker = MAKERS.get(random.nextInt(MAKERS.size()));
            return methods.stream().filter(m -> m.getName().equals(maker)).findFirst().get();
        }
        boolean isSpared = EMPTIERS.contains(method.getName()) && random.nextInt(3) != 0;
        return isSpared || method.getName().equals("isSound") ? someMethod() : method;
    }

    private boolean agrees(Method method) throws ReflectiveOperationException {
        Object[] arguments = arguments(method);
        Method due = Model.class.getDeclaredMethod(method.getName(), method.getParameterTypes());
        String got = answer(method, object, arguments);
        String want = answer(due, model, arguments);
        if (!got.equals(want)) {
            System.out.println(method.getName() + List.of(arguments) + " answered " + got + ", the model " + want);
        }
        return got.equals(want);
    }

    private static String answer(Method method, Object owner, Object[] arguments)
            throws ReflectiveOperationException {
        try {
            return String.valueOf(method.invoke(owner, arguments));
        } catch (InvocationTargetException e) {
            return e.getCause().getClass().getName();
        }
    }

    private Object[] arguments(Method method) {
        Class<?>[] types = method.getParameterTypes();
        Object[] arguments = new Object[types.length];
        boolean isOdd = random.nextInt(12) == 0;
        for (int i = 0; i < types.length; i++) {
            if (types[i] == boolean.class) {
                arguments[i] = random.nextBoolean();
            } else {
                arguments[i] = isOdd && random.nextBoolean() ? oddNumber() : random.nextInt(places);
            }
        }
        if (!isOdd) {
            tame(method.getName(), arguments);
        }
        return arguments;
    }

    /** Makes most calls ordinary ones: a book that is there, a span, a question that may be asked. */
    private void tame(String name, Object[] arguments) {
        boolean isOfPart = name.startsWith("part") && !name.equals("part") || name.equals("narrow");
        boolean hasBook = !isOfPart && !List.of("ofPart", "renote", "house").contains(name);
        int first = hasBook ? 1 : 0;
        if (hasBook && arguments.length > 0) {
            arguments[0] = random.nextInt(3);
        }
        if (List.of("pour", "copy", "areSame", "sift").contains(name)) {
            arguments[1] = random.nextInt(3);
        } else if (List.of("choice", "unheld").contains(name)) {
            arguments[1] = random.nextInt(1 << random.nextInt(9));
        } else if (name.equals("part")) {
            arguments[1] = random.nextInt(places / 2 + 1) - 1;
            arguments[2] = random.nextInt(3) == 0 ? -1 : arguments[2];
        } else if (arguments.length >= first + 2) {
            order(arguments, first);
        }
        if (name.equals("between")) {
            order(arguments, 3);
        }
        if (List.of("near", "many", "link").contains(name)) {
            arguments[3] = random.nextInt(7);
        } else if (List.of("ofBook", "ofPart", "house", "chosen").contains(name)) {
            arguments[first] = random.nextInt(7);
        }
    }

    private static void order(Object[] arguments, int first) {
        int a = (Integer) arguments[first];
        int b = (Integer) arguments[first + 1];
        arguments[first] = Math.min(a, b);
        arguments[first + 1] = Math.max(a, b);
    }

    private int oddNumber() {
        int[] odd = {-2147483648, -9, -2, -1, 0, 2, 3, 8, 99, 100, 101, 128, 255, 256, 2147483647};
        return odd[random.nextInt(odd.length)];
    }
}
