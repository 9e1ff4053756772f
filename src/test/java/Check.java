import java.util.NoSuchElementException;

/** What the tests have in common: calls that throw, feeding of texts, and the count of wrong answers. */
final class Check {
    static final long NO_ELEMENT = Long.MIN_VALUE;
    static final long ILLEGAL = Long.MIN_VALUE + 1;

    /** A call of the program whose answer is due; a boolean counts 1 or 0. */
    interface Call {
        long answer();
    }

    private final String test;
    private int wrong;
    private int checks;

    Check(String itsTest) {
        test = itsTest;
    }

    void due(String call, long want, Call made) {
        checks++;
        long got = answerOf(made);
        if (got != want) {
            wrong++;
            System.out.println(test + ": " + call + " answered " + told(got) + ", due is " + told(want));
        }
    }

    void dueText(String call, String want, String got) {
        checks++;
        if (!want.equals(got)) {
            wrong++;
            System.out.println(test + ": " + call + " answered " + got + ", due is " + want);
        }
    }

    private static long answerOf(Call made) {
        try {
            return made.answer();
        } catch (NoSuchElementException e) {
            return NO_ELEMENT;
        } catch (IllegalArgumentException e) {
            return e.getClass() == IllegalArgumentException.class ? ILLEGAL : Long.MIN_VALUE + 2;
        }
    }

    private static String told(long answer) {
        return answer == NO_ELEMENT ? "NoSuchElementException"
                : answer == ILLEGAL ? "IllegalArgumentException" : Long.toString(answer);
    }

    void end() {
        System.out.println(test + ": " + checks + " checks, " + wrong + " wrong");
        if (wrong != 0) {
            System.exit(1);
        }
    }

    static int bit(boolean value) {
        return value ? 1 : 0;
    }

    /** Feeds a text, filled up with spaces; answers the bytes in the buffer. */
    static int feed(MarkStacks marks, String text) {
        int fed = 0;
        for (int from = 0; from < text.length(); from += 20) {
            int[] words = new int[5];
            for (int i = 0; i < 20; i++) {
                int letter = from + i < text.length() ? text.charAt(from + i) & 255 : ' ';
                words[i / 4] = words[i / 4] << 8 | letter;
            }
            fed = marks.feed(words[0], words[1], words[2], words[3], words[4]);
        }
        return fed;
    }

    static int load(MarkStacks marks, String text) {
        feed(marks, text);
        return marks.load(text.length());
    }

    static int query(MarkStacks marks, String text) {
        feed(marks, text);
        return marks.query(text.length());
    }

    /** An object that has had another text before, so that a test finds what an earlier text leaves behind. */
    static MarkStacks loaded(String text) {
        MarkStacks marks = new MarkStacks();
        int before = load(marks, Texts.EARLIER);
        int signs = load(marks, text);
        if (before != 40 || signs < 0) {
            throw new IllegalStateException("the text of a test has an error: " + text);
        }
        return marks;
    }

    static String formatted(MarkStacks marks) {
        StringBuilder text = new StringBuilder();
        for (int i = 0; marks.formattedByte(i) != MarkStacks.NONE; i++) {
            text.append((char) marks.formattedByte(i));
        }
        return text.toString();
    }

    /** A line as it is written, as names. */
    static String written(MarkStacks marks, int line, int form) {
        marks.format(line, form);
        return formatted(marks);
    }
}
