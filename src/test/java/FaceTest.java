import java.io.IOException;
import java.lang.reflect.Constructor;
import java.lang.reflect.Field;
import java.lang.reflect.Method;
import java.lang.reflect.Modifier;
import java.nio.charset.StandardCharsets;
import java.nio.file.Files;
import java.nio.file.Path;
import java.util.ArrayList;
import java.util.List;
import java.util.TreeSet;

/** The public face as the document prints it, and what can be read off the file of LANGUAGE.md's rules. */
public final class FaceTest {
    private static final String N = " throws NoSuchElementException";
    private static final String I = " throws IllegalArgumentException";
    private static final String NI = " throws NoSuchElementException IllegalArgumentException";

    private static final String[] FACE = {
        "int feed(int int int int int)", "int load(int)" + I, "int errorPosition()", "int size(int)" + N,
        "int sign(int int)" + N, "int letter(int int)" + N, "int expanded(int int)" + N, "int pairOf(int int)" + N,
        "int used(int)" + N, "int recomposed(int)" + N, "int line(int int)" + N, "int at(int int int)" + N,
        "int unlike(int int)" + N, "int clusterOf(int int)" + N, "int cluster(int int int)" + N,
        "int box(int int int int)" + N, "long spellings(int int)" + N, "boolean clashes(int int)" + N,
        "int fullest(int)" + N, "int compare(int int)" + N, "boolean areBare(int int)" + N,
        "int matches(int int boolean)" + N, "int match(int int boolean int)" + N, "int saved(int int)" + N,
        "int bestClass(int int)" + N, "double meanMarks(int)" + N, "float shortness(int)" + N, "int hand(int)" + N,
        "int type(int int int)" + NI, "int erase(int int int)" + NI, "int stack(int int int)" + NI,
        "int strip(int int int)" + NI, "int decompose(int)" + N, "int compose(int)" + N, "int join(int int)" + N,
        "int setClass(int int)" + NI, "int setSpare(int boolean)" + NI, "int format(int int)" + N,
        "int formattedByte(int)", "int undoCount()", "int undo()", "void saveSnapshot()",
        "boolean restoreSnapshot()", "int query(int)" + I,
    };

    private static final String[] FORBIDDEN = {"catch", "finally", "synchronized", "assert", "->", "::", "String.format",
        "System.", "Exact", "Random", "Thread", "@", "import java.util.*", "Integer.MAX_VALUE", "Integer.MIN_VALUE"};

    public static void main(String[] args) throws IOException {
        Check check = new Check("FaceTest");
        checkMembers(check);
        checkInnerClasses(check);
        checkFile(check);
        check.end();
    }

    private static void checkMembers(Check check) {
        TreeSet<String> due = new TreeSet<>(List.of(FACE));
        TreeSet<String> found = new TreeSet<>();
        TreeSet<String> hidden = new TreeSet<>();
        for (Method method : MarkStacks.class.getDeclaredMethods()) {
            if (Modifier.isPublic(method.getModifiers())) {
                found.add(told(method));
            } else if (!Modifier.isPrivate(method.getModifiers())) {
                hidden.add(method.getName());
            }
        }
        check.dueText("the public methods", due.toString(), found.toString());
        check.dueText("methods neither public nor private", "[]", hidden.toString());
        TreeSet<String> fields = new TreeSet<>();
        for (Field field : MarkStacks.class.getDeclaredFields()) {
            if (!Modifier.isPrivate(field.getModifiers())) {
                fields.add(Modifier.toString(field.getModifiers()) + " " + field.getType() + " " + field.getName());
            }
        }
        check.dueText("the constants", "[public static final int HIDDEN, public static final int NONE]",
                fields.toString());
        check.due("NONE", -1, () -> MarkStacks.NONE);
        check.due("HIDDEN", -1000000000, () -> MarkStacks.HIDDEN);
        Constructor<?>[] made = MarkStacks.class.getDeclaredConstructors();
        check.due("constructors", 1, () -> made.length);
        check.dueText("the constructor", "public MarkStacks()", made[0].toString());
        check.dueText("the class", "public final", Modifier.toString(MarkStacks.class.getModifiers()));
    }

    private static String told(Method method) {
        StringBuilder text = new StringBuilder(method.getReturnType() + " " + method.getName() + "(");
        List<String> types = new ArrayList<>();
        for (Class<?> type : method.getParameterTypes()) {
            types.add(type.toString());
        }
        text.append(String.join(" ", types)).append(")");
        for (int i = 0; i < method.getExceptionTypes().length; i++) {
            text.append(i == 0 ? " throws " : " ").append(method.getExceptionTypes()[i].getSimpleName());
        }
        return text.toString();
    }

    private static void checkInnerClasses(Check check) {
        TreeSet<String> names = new TreeSet<>();
        for (Method method : MarkStacks.class.getDeclaredMethods()) {
            names.add(method.getName());
        }
        TreeSet<String> wrong = new TreeSet<>();
        for (Class<?> inner : MarkStacks.class.getDeclaredClasses()) {
            if (!Modifier.isStatic(inner.getModifiers()) || Modifier.isPublic(inner.getModifiers())) {
                wrong.add(inner.getName());
            }
            for (Method method : inner.getDeclaredMethods()) {
                if (names.contains(method.getName())) {
                    wrong.add(inner.getName() + "." + method.getName());
                }
            }
            if (inner.getDeclaredFields().length > 20) {
                wrong.add(inner.getName() + " has too many fields");
            }
        }
        check.dueText("inner classes against the rules", "[]", wrong.toString());
        check.due("at most twelve classes", 1,
                () -> Check.bit(MarkStacks.class.getDeclaredClasses().length + 1 <= 12));
    }

    private static void checkFile(Check check) throws IOException {
        byte[] bytes = Files.readAllBytes(Path.of("src/main/java/MarkStacks.java"));
        int strange = 0;
        for (byte b : bytes) {
            strange += b == '\n' || b >= 32 && b < 127 ? 0 : 1;
        }
        int found = strange;
        check.due("bytes that are no signs", 0, () -> found);
        String file = new String(bytes, StandardCharsets.US_ASCII);
        for (String word : FORBIDDEN) {
            check.due("places of " + word, 0, () -> file.contains(word) ? 1 : 0);
        }
    }
}
