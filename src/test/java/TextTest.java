/** Promises 1 to 4: a new object, the buffer, texts and their errors. */
public final class TextTest {
    private static final String SIGNS = "base a 10 12 5 4;mark m 10 above 4 2 2;";

    private final Check check = new Check("TextTest");

    public static void main(String[] args) {
        TextTest test = new TextTest();
        test.newObject();
        test.feeding();
        test.loading();
        test.replacing();
        test.syntaxErrors();
        test.rangeErrors();
        test.nameErrors();
        test.signErrors();
        test.countErrors();
        test.errorsChangeNothing();
        test.check.end();
    }

    private void newObject() {
        MarkStacks marks = new MarkStacks();
        long[] sizes = {0, 0, 0, 0, 0, 1, 0};
        for (int what = 0; what < 7; what++) {
            int asked = what;
            check.due("1: size(" + what + ")", sizes[what], () -> marks.size(asked));
        }
        check.due("1: line(0, 0)", 0, () -> marks.line(0, 0));
        check.due("1: line(1, 0)", Check.NO_ELEMENT, () -> marks.line(1, 0));
        check.due("1: sign(0, 0)", Check.NO_ELEMENT, () -> marks.sign(0, 0));
        check.due("1: undoCount()", 0, marks::undoCount);
        check.due("1: undo()", -1, marks::undo);
        check.due("1: restoreSnapshot()", 0, () -> Check.bit(marks.restoreSnapshot()));
        check.due("1: formattedByte(0)", -1, () -> marks.formattedByte(0));
        check.due("4: errorPosition()", -1, marks::errorPosition);
        check.due("1: load(1) of an empty buffer", Check.ILLEGAL, () -> marks.load(1));
        check.due("4: errorPosition() behind it", -1, marks::errorPosition);
        check.due("3: load(0)", -11, () -> marks.load(0));
        check.due("4: errorPosition() of load(0)", 0, marks::errorPosition);
    }

    private void feeding() {
        MarkStacks marks = new MarkStacks();
        for (int i = 1; i <= 45; i++) {
            check.due("2: feed", 20 * i, () -> marks.feed(0x6c696e65, 0x3b202020, 0x20202020, 0x20202020, 0x20202020));
        }
        check.due("2: feed beyond 900", -1, () -> marks.feed(0, 0, 0, 0, 0));
        check.due("2: feed beyond 900 again", -1, () -> marks.feed(0, 0, 0, 0, 0));
        check.due("3: load(901)", Check.ILLEGAL, () -> marks.load(901));
        check.due("3: load(-1)", Check.ILLEGAL, () -> marks.load(-1));
        check.due("3: load of the least number", Check.ILLEGAL, () -> marks.load(Integer.MIN_VALUE));
        check.due("3: load(900), the fifth line", -15, () -> marks.load(900));
        check.due("4: errorPosition()", 80, marks::errorPosition);
        check.due("3: the buffer is empty behind an error", 20, () -> Check.feed(marks, "line;"));
        check.due("3: load(6)", 0, () -> marks.load(6));
        check.due("3: the buffer is empty behind a load", 20, () -> Check.feed(marks, "line;"));
        check.due("2: bytes above 127 are invalid tokens", -11,
                () -> Check.load(new MarkStacks(), "\u00ff\u0080line;"));
        // The bytes of a parameter come with the most significant one first.
        MarkStacks ordered = new MarkStacks();
        ordered.feed(0x62617365, 0x20612031, 0x32203320, 0x34203520, 0x3b6c696e);
        ordered.feed(0x65206161, 0x3b202020, 0, 0, 0);
        check.due("2: load", -14, () -> ordered.load(25));
        check.due("2: aa is not the name", 22, ordered::errorPosition);
    }

    private void loading() {
        MarkStacks marks = new MarkStacks();
        check.due("3: nine signs", 9, () -> Check.load(marks, Texts.SIGNS + Texts.LINES));
        check.due("3: the hand is told", 1, () -> marks.size(6));
        check.due("3: the same without spaces", 2, () -> Check.load(marks, "base\na1 20 0\n020;mark m60below9 1 0;line;"));
        check.due("3: the hand is the line 0 again", 0, () -> marks.size(6));
        check.due("3: height", 20, () -> marks.sign(0, 4));
        check.due("3: anchor", 20, () -> marks.sign(0, 6));
        check.due("3: leading zeros", 1, () -> Check.load(marks, "base a 0000000000000000000001 020 00 0;line a;"));
        check.due("3: words of the queries are names", 3,
                () -> Check.load(marks, "base many 1 1 1 1;base not 1 1 1 1;base kind 1 1 1 1;line many not;"));
        check.due("3: bytes behind the length are not read", 0, () -> {
            Check.feed(marks, "line;?");
            return marks.load(5);
        });
        check.due("3: no signs", 0, () -> Check.load(marks, "line;line;hand 1;"));
        check.due("3: forty signs, four lines, sixty places", 40, () -> Check.load(marks,
                SIGNS + bases(38) + "line;line;line;line" + Texts.times(60, " m") + ";hand 3;"));
        check.due("3: sixty places", 60, () -> marks.line(3, 0));
    }

    /** Up to forty bases with names of two letters. */
    private static String bases(int count) {
        StringBuilder text = new StringBuilder();
        for (int i = 0; i < count; i++) {
            char letter = (char) ('a' + i % 20);
            text.append("base ").append(i < 20 ? 'x' : 'y').append(letter).append("1 1 1 1;");
        }
        return text.toString();
    }

    private void replacing() {
        MarkStacks marks = Texts.usual();
        marks.hand(3);
        marks.saveSnapshot();
        marks.format(1, 0);
        check.due("3: load", 2, () -> Check.load(marks, SIGNS + "line a;"));
        check.due("3: the undo history is discarded", 0, marks::undoCount);
        check.due("3: nothing to undo", -1, marks::undo);
        check.due("3: the snapshot is discarded", 0, () -> Check.bit(marks.restoreSnapshot()));
        check.due("3: one line", 1, () -> marks.size(5));
        check.due("3: two signs", 2, () -> marks.size(0));
        check.dueText("40: the text of format stays", "e +st +ce", Check.formatted(marks));
    }

    private void error(String text, int code, int position) {
        MarkStacks marks = new MarkStacks();
        check.due("3: load of " + text, -10 - code, () -> Check.load(marks, text));
        check.due("4: errorPosition() of " + text, position, marks::errorPosition);
    }

    /** The token under test stands behind the first text. */
    private void errorAt(String ahead, String rest, int code) {
        error(ahead + rest, code, ahead.length());
    }

    private void syntaxErrors() {
        error("", 1, 0);
        error("  \n ", 1, 4);
        errorAt("", "hand 0;", 1);
        errorAt("", "x;line;", 1);
        errorAt("", ";line;", 1);
        errorAt("", "Line;", 1);
        errorAt("line", "\t;", 1);
        errorAt("line", "(;", 1);
        errorAt("line", "", 1);
        errorAt("line ", "", 1);
        errorAt("line; ", "base a 1 1 1 1;", 1);
        errorAt("line; ", ";", 1);
        errorAt("line;hand 0;", "line;", 1);
        errorAt("line;hand 0;", "hand 0;", 1);
        errorAt("line;hand 0", "", 1);
        errorAt("line;hand ", ";", 1);
        errorAt("line;hand ", "a;", 1);
        errorAt("line ", "hand 0;", 1);
        errorAt("line ", "0;", 1);
        errorAt(SIGNS, "", 1);
        errorAt(SIGNS, "spare;", 1);
        errorAt("base ", "1 1 1 1 1;line;", 1);
        errorAt("base ", "abcde 1 1 1 1;line;", 1);
        for (String word : new String[] {"hand", "base", "mark", "above", "below", "through", "pair", "spare", "line"}) {
            errorAt("base ", word + " 1 1 1 1;line;", 1);
            errorAt(SIGNS + "pair x ", word + " m;line;", 1);
            errorAt(SIGNS + "pair x a ", word + ";line;", 1);
            errorAt(SIGNS + "line a ", word + ";", 1);
        }
        errorAt("base a 1 1 1 ", ";line;", 1);
        errorAt("base a 1 1 1 1 ", "1;line;", 1);
    }

    private void rangeErrors() {
        errorAt("base a ", "0 1 1 1;line;", 2);
        errorAt("base a ", "21 1 1 1;line;", 2);
        errorAt("base a 1 ", "0 1 1;line;", 2);
        errorAt("base a 1 ", "21 1 1;line;", 2);
        errorAt("base a 1 1 ", "21 1;line;", 2);
        errorAt("base a 1 1 1 ", "21;line;", 2);
        errorAt("mark m ", "0 above 1 1 1;line;", 2);
        errorAt("mark m ", "61 above 1 1 1;line;", 2);
        errorAt("mark m 1 above ", "0 1 1;line;", 2);
        errorAt("mark m 1 above ", "10 1 1;line;", 2);
        errorAt("mark m 1 above 1 ", "0 1;line;", 2);
        errorAt("mark m 1 above 1 ", "10 1;line;", 2);
        errorAt("mark m 1 above 1 1 ", "10;line;", 2);
        errorAt("line;line;hand ", "2;", 2);
        // A number that would wrap around is out of range, too.
        errorAt("base a ", "4294967297 1 1 1;line;", 2);
        errorAt("base a ", "18446744073709551617 1 1 1;line;", 2);
        errorAt("line;hand ", "4294967296;", 2);
        errorAt("base a 1 1 1 1 ", "99;line;", 1);
    }

    private void nameErrors() {
        errorAt(SIGNS + "base ", "a 1 1 1 1;line;", 3);
        errorAt(SIGNS + "mark ", "m 1 above 1 1 1;line;", 3);
        errorAt(SIGNS + "pair ", "a a m;line;", 3);
        errorAt(SIGNS + "pair b a m;pair c a ", "m;line;", 3);
        errorAt(SIGNS + "pair b a m spare;pair c a ", "m spare;line;", 3);
        errorAt(SIGNS + "base b 1 1 1 1;pair c a m;pair d b m;pair e c m;pair f b ", "m;line;", 3);
    }

    private void signErrors() {
        errorAt(SIGNS + "pair b ", "x m;line;", 4);
        errorAt(SIGNS + "pair b ", "b m;line;", 4);
        errorAt(SIGNS + "pair b ", "m m;line;", 4);
        errorAt(SIGNS + "pair b a ", "x;line;", 4);
        errorAt(SIGNS + "pair b a ", "a;line;", 4);
        errorAt(SIGNS + "pair b a m;pair c a ", "b;line;", 4);
        errorAt(SIGNS + "line a ", "x;", 4);
        errorAt(SIGNS + "mark n 10 ", "below 1 1 1;line;", 4);
        errorAt(SIGNS + "mark n 10 ", "through 1 1 1;line;", 4);
        errorAt(SIGNS + "mark n 10 ", "beside 1 1 1;line;", 1);
        errorAt(SIGNS + "mark n 10 ", "1 1 1 1;line;", 1);
        check.due("3: another class, another side", 3,
                () -> Check.load(new MarkStacks(), SIGNS + "mark n 11 below 1 1 1;line;"));
        check.due("3: the same class and side", 3,
                () -> Check.load(new MarkStacks(), SIGNS + "mark n 10 above 1 1 1;line;"));
    }

    private void countErrors() {
        String six = SIGNS + "pair b a m;pair c b m;pair d c m;pair e d m;pair f e m;";
        check.due("3: an expansion of six signs", 7, () -> Check.load(new MarkStacks(), six + "line f;"));
        errorAt(six + "pair g ", "f m;line;", 5);
        errorAt(SIGNS + bases(38), "base q 1 1 1 1;line;", 5);
        errorAt(SIGNS + bases(38), "mark;line;", 5);
        errorAt(SIGNS + bases(38), "pair;line;", 5);
        errorAt("line;line;line;line;", "line;", 5);
        errorAt(SIGNS + "line" + Texts.times(60, " a") + " ", "m;", 5);
        errorAt(SIGNS + "line" + Texts.times(60, " a") + " ", "x;", 4);
        errorAt(SIGNS + "line" + Texts.times(60, " a") + " ", "xxxxx;", 1);
        errorAt(SIGNS + "line" + Texts.times(60, " a") + " ", "hand;", 1);
        errorAt(SIGNS + "line" + Texts.times(60, " a") + " ", "1;", 1);
    }

    private void errorsChangeNothing() {
        MarkStacks marks = Texts.usual();
        marks.hand(0);
        marks.saveSnapshot();
        check.due("3: an error", -11, () -> Check.load(marks, "base q 1 1 1 1;line q;line;line q q;hand"));
        check.due("3: the signs stay", 9, () -> marks.size(0));
        check.due("3: the name of the sign 0 stays", 'a', () -> marks.letter(0, 0));
        check.due("3: the lines stay", 6, () -> marks.line(0, 0));
        check.due("3: the hand stays", 0, () -> marks.size(6));
        check.due("3: the undo history stays", 1, marks::undoCount);
        check.due("3: the snapshot stays", 1, () -> Check.bit(marks.restoreSnapshot()));
        check.due("4: the position", 40, marks::errorPosition);
        check.due("3: a load that throws", Check.ILLEGAL, () -> marks.load(1));
        check.due("4: the position stays", 40, marks::errorPosition);
        check.due("45: a query without an error", 0, () -> Check.query(marks, "many 1 = 2"));
        check.due("4: no position", -1, marks::errorPosition);
        check.due("45: a query with an error", -1000000001, () -> Check.query(marks, "many"));
        check.due("4: its position", 4, marks::errorPosition);
        // What a text with too many signs leaves in the draft does not come back.
        errorLeavesNoTrace(marks);
    }

    private void errorLeavesNoTrace(MarkStacks marks) {
        check.due("3: too many signs", -15, () -> Check.load(marks, SIGNS + bases(38) + "mark q 3 below 1 1 1;line;"));
        check.due("3: a first part that there is not", -14, () -> Check.load(marks, "pair q r s;line;"));
        check.due("4: its position", 7, marks::errorPosition);
        check.due("3: a text behind it", 2, () -> Check.load(marks, SIGNS + "line a m;"));
        check.due("16: a cluster behind it", 0, () -> marks.cluster(0, 0, 0));
    }
}
