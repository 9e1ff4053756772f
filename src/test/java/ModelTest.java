import java.lang.reflect.InvocationTargetException;
import java.lang.reflect.Method;
import java.lang.reflect.Modifier;
import java.util.ArrayList;
import java.util.Comparator;
import java.util.List;
import java.util.Random;

/** Holds the program against the model in long runs of calls, whose seeds are fixed. */
public final class ModelTest {
    private static final int RUNS = 1500;
    private static final int TURNS = 300;
    /** What an object answers to later calls is free. */
    private static final int CALLS = 512;
    private static final int NONE = -1;

    private final Random random;
    private final MarkStacks marks = new MarkStacks();
    private final Model model = new Model();
    private final List<String> told = new ArrayList<>();
    private int calls;

    private ModelTest(int seed) {
        random = new Random(seed);
    }

    public static void main(String[] args) throws ReflectiveOperationException {
        int runs = args.length > 0 ? Integer.parseInt(args[0]) : RUNS;
        int from = args.length > 1 ? Integer.parseInt(args[1]) : 0;
        for (int seed = from; seed < from + runs; seed++) {
            if (!new ModelTest(seed).run(seed)) {
                System.exit(1);
            }
        }
        System.out.println("ModelTest: " + runs + " runs as the model has them");
    }

    private static List<Method> face() {
        List<Method> face = new ArrayList<>();
        for (Method method : MarkStacks.class.getDeclaredMethods()) {
            String name = method.getName();
            boolean reads = name.equals("feed") || name.equals("load") || name.equals("query");
            if (Modifier.isPublic(method.getModifiers()) && !reads) {
                face.add(method);
            }
        }
        face.sort(Comparator.comparing(Method::getName));
        return face;
    }

    private static final List<Method> FACE = face();

    private boolean run(int seed) throws ReflectiveOperationException {
        for (int i = 0; i < TURNS && calls < CALLS; i++) {
            // An object without signs has little to tell.
            int kind = model.size(0) < 4 && random.nextInt(4) == 0 ? 0 : random.nextInt(60);
            boolean same;
            if (kind == 0) {
                same = read("load", new TextMaker(random).text(), 900);
            } else if (kind < 5) {
                same = read("query", new TextMaker(random).query(), 200);
            } else {
                same = callAny();
            }
            if (!same || !both("errorPosition", new Class<?>[0])) {
                System.out.println("ModelTest: seed " + seed + " is not as the model has it:");
                told.forEach(System.out::println);
                return false;
            }
        }
        return true;
    }

    private boolean read(String call, String text, int room) throws ReflectiveOperationException {
        String fed = text.length() > 900 ? text.substring(0, 900) : text;
        told.add(call + " of " + fed.replace("\n", "\\n"));
        Class<?>[] five = {int.class, int.class, int.class, int.class, int.class};
        for (int from = 0; from < fed.length(); from += 20) {
            Object[] words = new Object[5];
            for (int w = 0; w < 5; w++) {
                int word = 0;
                for (int b = 0; b < 4; b++) {
                    int at = from + 4 * w + b;
                    word = word << 8 | (at < fed.length() ? fed.charAt(at) & 255 : 'x');
                }
                words[w] = word;
            }
            if (!both("feed", five, words)) {
                return false;
            }
        }
        int length = random.nextInt(20) == 0 ? random.nextInt(1000) - 20 : fed.length();
        return both(call, new Class<?>[] {int.class}, length);
    }

    private boolean callAny() throws ReflectiveOperationException {
        Method method = FACE.get(random.nextInt(FACE.size()));
        Class<?>[] types = method.getParameterTypes();
        Object[] values = new Object[types.length];
        for (int i = 0; i < types.length; i++) {
            values[i] = types[i] == boolean.class ? (Object) random.nextBoolean() : (Object) number(method.getName(), i, values);
        }
        return both(method.getName(), types, values);
    }

    /** Mostly a number that means something at this place of the call. */
    private int number(String call, int place, Object[] values) {
        int signs = Math.max(1, model.size(0));
        if (random.nextInt(25) == 0) {
            int[] odd = {-1, Integer.MIN_VALUE, Integer.MAX_VALUE, 60, 61, 7, 9, signs, model.size(5), -2};
            return odd[random.nextInt(odd.length)];
        }
        boolean takesSign = call.equals("type") && place == 2 || call.equals("stack") && place == 2
                || call.equals("saved") && place == 1 || call.equals("bestClass") && place == 1
                || call.equals("pairOf") || place == 0 && (call.equals("sign") || call.equals("letter")
                || call.equals("expanded") || call.equals("used") || call.equals("recomposed")
                || call.equals("setClass") || call.equals("setSpare"));
        if (takesSign) {
            return random.nextInt(signs);
        }
        if (call.equals("setClass")) {
            return 1 + random.nextInt(random.nextBoolean() ? 60 : 8);
        }
        if (call.equals("formattedByte")) {
            return random.nextInt(100);
        }
        boolean takesLine = place == 0 && !call.equals("size") || place == 1 && (call.equals("compare")
                || call.equals("areBare") || call.equals("matches") || call.equals("match") || call.equals("join"));
        if (takesLine) {
            return random.nextInt(model.size(5));
        }
        int most = random.nextInt(8) == 0 ? 9 : roomOf(call, place, values);
        return random.nextInt(Math.max(1, most));
    }

    /** How many numbers mean something at this place behind a line. */
    private int roomOf(String call, int place, Object[] values) {
        int line = place > 0 && values[0] instanceof Integer number ? number : NONE;
        boolean there = line >= 0 && line < model.size(5);
        boolean takesPlace = List.of("clusterOf", "type", "erase").contains(call);
        boolean takesCluster = place == 1
                && List.of("cluster", "box", "spellings", "clashes", "stack", "strip").contains(call);
        if (there && takesPlace) {
            return model.line(line, 0) + (call.equals("type") ? 1 : 0);
        }
        if (there && takesCluster) {
            return model.line(line, 4);
        }
        if (there && call.equals("at") && place == 2) {
            return model.line(line, (int) values[1] >= 0 && (int) values[1] < 3 ? (int) values[1] : 0);
        }
        if (call.equals("expanded") || call.equals("format") || call.equals("at") || call.equals("unlike")) {
            return 3;
        }
        return call.equals("box") ? 5 : call.equals("strip") ? 4 : call.equals("match") ? 3 : 9;
    }

    private boolean both(String call, Class<?>[] types, Object... values) throws ReflectiveOperationException {
        calls++;
        if (calls > CALLS) {
            return true;
        }
        Object mine = answer(MarkStacks.class.getMethod(call, types), marks, values);
        Object due = answer(Model.class.getMethod(call, types), model, values);
        StringBuilder row = new StringBuilder(call);
        for (Object value : values) {
            row.append(' ').append(value);
        }
        told.add(row + " -> " + mine + ", due is " + due);
        return String.valueOf(mine).equals(String.valueOf(due));
    }

    private static Object answer(Method method, Object object, Object[] values) throws ReflectiveOperationException {
        try {
            return method.invoke(object, values);
        } catch (InvocationTargetException e) {
            return e.getCause().getClass().getName();
        }
    }
}
