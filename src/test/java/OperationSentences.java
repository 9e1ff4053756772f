/** The sentences on operations: Operations, promises 29 to 38. */
final class OperationSentences {
    private static final int[] NO_LINES = {-1, 4, Integer.MIN_VALUE, Integer.MAX_VALUE};
    private static final int[] NO_NUMBERS = {-1, Integer.MIN_VALUE, Integer.MAX_VALUE};
    private static final int[] NO_SIGNS = {-1, 9, 40, Integer.MIN_VALUE, Integer.MAX_VALUE};
    /** The line 0 has 60 signs, the line 1 has 31 that would be 61, and the line 2 has 30 that would be 60. */
    private static final String FULL = Texts.SIGNS + "line" + Texts.times(60, " ac") + ";line" + Texts.times(30, " aa")
            + " a;line" + Texts.times(30, " aa") + ";line;";

    /** A call of the face on an object that is given. */
    private interface Use {
        long on(MarkStacks marks);
    }

    private final Sentences s;

    private OperationSentences(Sentences sentences) {
        s = sentences;
    }

    static void check(Sentences sentences) {
        OperationSentences operations = new OperationSentences(sentences);
        operations.constants();
        operations.recorded();
        operations.refused();
        operations.order();
        operations.undone();
        operations.undoneAgain();
        operations.notUndone();
        operations.hand();
        operations.type();
        operations.erase();
        operations.stack();
        operations.strip();
        operations.stripSides();
        operations.decompose();
        operations.compose();
        operations.join();
        operations.setClass();
        operations.setSpare();
    }

    private static MarkStacks full() {
        return Check.loaded(FULL);
    }

    private void row(String due, MarkStacks marks, int line) {
        s.text("the line " + line, due, Check.written(marks, line, 0));
    }

    private void constants() {
        s.says("Operations", "The constants: `NONE = -1`: There is no such value.");
        s.due("NONE", -1, () -> MarkStacks.NONE);
        s.says("Operations", "`HIDDEN = -1000000000`: Error results of query start here.");
        s.due("HIDDEN", -1000000000, () -> MarkStacks.HIDDEN);
        s.due("a query with an error", MarkStacks.HIDDEN - 1, () -> Check.query(new MarkStacks(), ""));
    }

    private void recordedOnce(String call, Use use) {
        MarkStacks marks = Texts.usual();
        use.on(marks);
        s.due("undoCount() behind " + call, 1, marks::undoCount);
        s.due("undo() behind " + call, 0, marks::undo);
        s.text("the state behind both of " + call, State.of(Texts.usual()), State.of(marks));
    }

    private void recorded() {
        s.says("Operations", "hand, type, erase, stack, strip, decompose, compose, join, setClass and setSpare are "
                + "operations.");
        recordedOnce("hand", marks -> marks.hand(2));
        recordedOnce("type", marks -> marks.type(0, 3, 7));
        recordedOnce("erase", marks -> marks.erase(0, 1, 4));
        recordedOnce("stack", marks -> marks.stack(3, 2, 3));
        recordedOnce("strip", marks -> marks.strip(3, 2, 3));
        recordedOnce("decompose", marks -> marks.decompose(3));
        recordedOnce("compose", marks -> marks.compose(1));
        recordedOnce("join", marks -> marks.join(2, 0));
        recordedOnce("setClass", marks -> marks.setClass(2, 33));
        recordedOnce("setSpare", marks -> marks.setSpare(7, false));
        s.says("Operations", "Every successful call is recorded, even if it changes nothing;");
        recordedOnce("hand", marks -> marks.hand(1));
        recordedOnce("strip", marks -> marks.strip(1, 0, 0));
        recordedOnce("decompose", marks -> marks.decompose(1));
        recordedOnce("compose", marks -> marks.compose(2));
        recordedOnce("join", marks -> marks.join(0, 2));
        recordedOnce("setClass", marks -> marks.setClass(2, 10));
        recordedOnce("setSpare", marks -> marks.setSpare(7, true));
    }

    private void changesNothing(String call, long due, Use use) {
        MarkStacks marks = State.filled();
        s.due(call, due, () -> use.on(marks));
        s.text("the state behind " + call, State.of(State.filled()), State.of(marks));
    }

    private void changesNothingOfFull(String call, Use use) {
        MarkStacks marks = full();
        s.due(call, -2, () -> use.on(marks));
        s.due("undoCount() behind " + call, 0, marks::undoCount);
        for (int line = 0; line < 4; line++) {
            s.text("the line " + line, State.row(full(), line), State.row(marks, line));
        }
    }

    private void refused() {
        s.says("Operations", "a call that returns a negative error code or throws an exception changes nothing;");
        changesNothing("hand(4)", Check.NO_ELEMENT, marks -> marks.hand(4));
        changesNothing("type(0, 0, 9)", Check.NO_ELEMENT, marks -> marks.type(0, 0, 9));
        changesNothing("type(0, 7, 0)", Check.ILLEGAL, marks -> marks.type(0, 7, 0));
        changesNothing("erase(0, 0, 6)", Check.NO_ELEMENT, marks -> marks.erase(0, 0, 6));
        changesNothing("erase(0, 3, 2)", Check.ILLEGAL, marks -> marks.erase(0, 3, 2));
        changesNothing("stack(0, 3, 2)", Check.NO_ELEMENT, marks -> marks.stack(0, 3, 2));
        changesNothing("stack(3, 0, 9)", Check.NO_ELEMENT, marks -> marks.stack(3, 0, 9));
        changesNothing("stack(3, 0, 6)", Check.ILLEGAL, marks -> marks.stack(3, 0, 6));
        changesNothing("strip(0, 3, 0)", Check.NO_ELEMENT, marks -> marks.strip(0, 3, 0));
        changesNothing("strip(3, 2, 4)", Check.ILLEGAL, marks -> marks.strip(3, 2, 4));
        changesNothing("decompose(4)", Check.NO_ELEMENT, marks -> marks.decompose(4));
        changesNothing("compose(4)", Check.NO_ELEMENT, marks -> marks.compose(4));
        changesNothing("join(0, 4)", Check.NO_ELEMENT, marks -> marks.join(0, 4));
        changesNothing("join(4, 0)", Check.NO_ELEMENT, marks -> marks.join(4, 0));
        changesNothing("setClass(9, 1)", Check.NO_ELEMENT, marks -> marks.setClass(9, 1));
        changesNothing("setClass(2, 61)", Check.ILLEGAL, marks -> marks.setClass(2, 61));
        changesNothing("setClass(0, 7)", Check.ILLEGAL, marks -> marks.setClass(0, 7));
        changesNothing("setClass(2, 5)", -2, marks -> marks.setClass(2, 5));
        changesNothing("setSpare(9, true)", Check.NO_ELEMENT, marks -> marks.setSpare(9, true));
        changesNothing("setSpare(0, true)", Check.ILLEGAL, marks -> marks.setSpare(0, true));
        changesNothingOfFull("type(0, 0, 0)", marks -> marks.type(0, 0, 0));
        changesNothingOfFull("stack(1, 0, 2)", marks -> marks.stack(1, 0, 2));
        changesNothingOfFull("strip(1, 0, 1)", marks -> marks.strip(1, 0, 1));
        changesNothingOfFull("decompose(1)", marks -> marks.decompose(1));
        changesNothingOfFull("compose", marks -> {
            marks.setSpare(6, true);
            int answer = marks.compose(1);
            marks.undo();
            return answer;
        });
        changesNothingOfFull("join(0, 1)", marks -> marks.join(0, 1));
    }

    private void order() {
        s.says("Operations", "error codes are checked behind the exceptions, in the order in which they are listed.");
        s.illegal("type into a full line, no place", () -> full().type(0, 61, 0));
        s.noElement("type into a full line, no sign", () -> full().type(0, 0, 9));
        s.illegal("stack of a base into a full line", () -> full().stack(1, 0, 0));
        s.noElement("stack into a full line, no cluster", () -> full().stack(1, 31, 2));
        s.illegal("strip of a full line, no side", () -> full().strip(1, 0, 4));
        s.noElement("strip of a full line, no cluster", () -> full().strip(1, 31, 1));
        s.illegal("setClass of a class of another side, to a base", () -> Texts.usual().setClass(0, 5));
    }

    private void undone() {
        s.says("Operations", "The 10 most recent operations can be undone, the most recent one first.");
        MarkStacks marks = Texts.usual();
        for (int i = 0; i < 12; i++) {
            marks.type(2, i, i % 6);
        }
        s.due("undoCount()", 10, marks::undoCount);
        for (int left = 9; left >= 0; left--) {
            s.due("undo()", left, marks::undo);
            s.due("the signs then", left + 2, () -> marks.line(2, 0));
        }
        s.due("undo() of an eleventh", -1, marks::undo);
        row("a e", marks, 2);
        s.says("Operations", "Undoing restores everything that the operation changed,");
        marks.hand(0);
        marks.type(2, 0, 4);
        marks.erase(0, 0, 5);
        marks.stack(1, 0, 2);
        marks.strip(3, 2, 0);
        marks.decompose(2);
        marks.compose(1);
        marks.join(2, 3);
        marks.setClass(3, 2);
        marks.setSpare(6, true);
        for (int i = 0; i < 10; i++) {
            marks.undo();
        }
        MarkStacks other = Check.loaded(Texts.SIGNS + Texts.LINES.replace("line;", "line a e;"));
        other.format(2, 0);
        s.text("all of it", State.of(other), State.of(marks));
    }

    /** All ten memories of earlier states are used again and again. */
    private void undoneAgain() {
        s.says("Operations", "Undoing restores everything that the operation changed,");
        MarkStacks marks = Check.loaded("mark m 1 above 1 1 1;base a 1 1 1 1;pair p a m;line;line;");
        for (int i = 0; i < 40; i++) {
            marks.setClass(0, 1 + i);
            marks.setSpare(2, i % 2 == 0);
            marks.hand(i % 2);
        }
        for (int i = 39; i > 36; i--) {
            int round = i;
            marks.undo();
            s.due("the hand", 1 - round % 2, () -> marks.size(6));
            marks.undo();
            s.due("spare", round % 2, () -> marks.sign(2, 5));
            marks.undo();
            s.due("the class of the sign 0", round, () -> marks.sign(0, 1));
        }
    }

    private void notUndone() {
        s.says("Operations", "but not the buffer, the error position, the text of format and the snapshot.");
        MarkStacks marks = Texts.usual();
        marks.hand(0);
        marks.format(1, 0);
        Check.query(marks, "many what");
        Check.feed(marks, "first place = 4");
        marks.saveSnapshot();
        marks.hand(2);
        marks.undo();
        marks.undo();
        s.due("the error position", 5, marks::errorPosition);
        s.text("the text", "e +st +ce", Check.formatted(marks));
        s.due("the snapshot", 1, () -> Check.bit(marks.restoreSnapshot()));
        s.due("the hand of the snapshot", 0, () -> marks.size(6));
        s.due("the query in the buffer", 4, () -> marks.query(15));
    }

    private void hand() {
        MarkStacks marks = Texts.usual();
        s.says("Promise 29", "Operation: a line is at hand from now on.");
        marks.hand(3);
        s.due("size(6)", 3, () -> marks.size(6));
        s.due("a query of it", 4, () -> Check.query(marks, "many 1 = 1"));
        s.says("Promise 29", "Returns the line that was at hand.");
        s.due("hand(0)", 3, () -> marks.hand(0));
        s.due("hand(0) again", 0, () -> marks.hand(0));
        s.due("hand(2)", 0, () -> marks.hand(2));
        s.says("Promise 29", "if there is no such line");
        for (int line : NO_LINES) {
            s.noElement("hand(" + line + ")", () -> marks.hand(line));
        }
        s.noElement("hand(1) of a new object", () -> new MarkStacks().hand(1));
    }

    private void type() {
        MarkStacks marks = Texts.usual();
        s.says("Promise 30", "Returns the signs of its decomposed form then;");
        s.due("ab into no signs", 3, () -> marks.type(2, 0, 7));
        s.due("ac behind", 4, () -> marks.type(2, 1, 2));
        s.due("do ahead", 5, () -> marks.type(2, 0, 3));
        s.due("aa between", 7, () -> marks.type(2, 2, 6));
        s.says("Promise 30", "Operation: a sign comes into a line, ahead of a place (or behind all).");
        row("+do *ab *aa +ac", marks, 2);
        s.says("Promise 30", "`place`: 0 to the number of its signs");
        s.due("0", 8, () -> marks.type(2, 0, 0));
        s.due("the number of its signs", 9, () -> marks.type(2, 5, 1));
        row("a +do *ab *aa +ac e", marks, 2);
        s.says("Promise 30", "-2 if the line has 60 signs.");
        MarkStacks most = Texts.with(Texts.times(59, " a"));
        s.due("59 signs", 62, () -> most.type(0, 0, 7));
        s.due("60 signs, ahead", -2, () -> most.type(0, 0, 0));
        s.due("60 signs, behind", -2, () -> most.type(0, 60, 0));
        MarkStacks wide = Texts.with(Texts.times(59, " ab"));
        s.due("59 signs with 177 of the decomposed form", 178, () -> wide.type(0, 59, 0));
        s.says("Promise 30", "if there is no such line or sign (checked first)");
        for (int line : NO_LINES) {
            s.noElement("type(" + line + ", 0, 0)", () -> marks.type(line, 0, 0));
            s.noElement("type(" + line + ", -1, 0)", () -> marks.type(line, -1, 0));
        }
        for (int sign : NO_SIGNS) {
            s.noElement("type(2, 0, " + sign + ")", () -> marks.type(2, 0, sign));
            s.noElement("type(2, 99, " + sign + ")", () -> marks.type(2, 99, sign));
        }
        s.says("Promise 30", "if place is out of range");
        s.illegal("behind the number of its signs", () -> marks.type(2, 7, 0));
        s.illegal("of no signs", () -> Texts.usual().type(2, 1, 0));
        for (int place : NO_NUMBERS) {
            s.illegal("type(2, " + place + ", 0)", () -> marks.type(2, place, 0));
        }
    }

    private void erase() {
        MarkStacks marks = Texts.usual();
        s.says("Promise 31", "Returns how many are left.");
        s.due("erase(0, 1, 3)", 3, () -> marks.erase(0, 1, 3));
        s.says("Promise 31", "Operation: the signs at some places of a line go.");
        row("a e *ec", marks, 0);
        s.says("Promise 31", "`from`: first place");
        s.due("from 0", 2, () -> marks.erase(0, 0, 0));
        row("e *ec", marks, 0);
        s.says("Promise 31", "`to`: last place");
        s.due("to the last place", 1, () -> marks.erase(0, 1, 1));
        row("e", marks, 0);
        s.due("all of them", 0, () -> marks.erase(3, 0, 3));
        row("", marks, 3);
        s.due("sixty of them", 0, () -> full().erase(0, 0, 59));
        s.says("Promise 31", "if there is no such line or place (checked first)");
        s.noElement("of no signs", () -> marks.erase(3, 0, 0));
        s.noElement("from behind the last place", () -> marks.erase(1, 3, 3));
        s.noElement("from behind the last place, to less than from", () -> marks.erase(1, 3, 1));
        s.noElement("to behind the last place", () -> marks.erase(1, 0, 3));
        for (int number : NO_NUMBERS) {
            s.noElement("erase(1, " + number + ", 0)", () -> marks.erase(1, number, 0));
            s.noElement("erase(1, 2, " + number + ")", () -> marks.erase(1, 2, number));
        }
        for (int line : NO_LINES) {
            s.noElement("erase(" + line + ", 0, 0)", () -> marks.erase(line, 0, 0));
            s.noElement("erase(" + line + ", 1, 0)", () -> marks.erase(line, 1, 0));
        }
        s.says("Promise 31", "if to is less than from");
        s.illegal("erase(1, 1, 0)", () -> marks.erase(1, 1, 0));
        s.illegal("erase(1, 2, 0)", () -> marks.erase(1, 2, 0));
        s.due("erase(1, 1, 1)", 2, () -> marks.erase(1, 1, 1));
    }

    private void stack() {
        MarkStacks marks = Texts.usual();
        s.says("Promise 32", "Returns the place of this mark then, among the marks of the cluster (from 0);");
        s.due("behind marks of its class", 3, () -> marks.stack(0, 0, 3));
        s.due("ahead of all", 0, () -> marks.stack(0, 0, 5));
        s.due("between", 2, () -> marks.stack(0, 0, 4));
        s.due("into a cluster without marks", 0, () -> marks.stack(0, 1, 2));
        s.due("into a cluster without a base", 1, () -> marks.stack(3, 0, 3));
        s.says("Promise 32", "Operation: a line becomes its decomposed form with a mark put behind all signs of a cluster, and "
                + "this is put in order.");
        row("a +st +ce +ce +do +ac +do e +ac e +ce", marks, 0);
        row("+ac +do a +ac a +st +ce +ac", marks, 3);
        s.says("Promise 32", "-2 if the line would have more than 60 signs.");
        s.due("61", -2, () -> full().stack(0, 0, 2));
        s.due("30 signs that would be 61", -2, () -> full().stack(2, 0, 2));
        MarkStacks most = Texts.with("ac" + Texts.times(29, " aa"));
        s.due("60", 1, () -> most.stack(0, 29, 2));
        s.due("60 signs then", 60, () -> most.line(0, 0));
        s.due("and another one", -2, () -> most.stack(0, 29, 2));
        s.says("Promise 32", "if there is no such line, cluster or sign (checked first)");
        s.noElement("of no clusters", () -> marks.stack(2, 0, 2));
        s.noElement("behind the last cluster", () -> marks.stack(3, 3, 2));
        s.noElement("behind the last cluster, no mark", () -> marks.stack(3, 3, 0));
        for (int number : NO_NUMBERS) {
            s.noElement("stack(3, " + number + ", 2)", () -> marks.stack(3, number, 2));
            s.noElement("stack(3, " + number + ", 0)", () -> marks.stack(3, number, 0));
        }
        for (int line : NO_LINES) {
            s.noElement("stack(" + line + ", 0, 2)", () -> marks.stack(line, 0, 2));
        }
        for (int sign : NO_SIGNS) {
            s.noElement("stack(3, 0, " + sign + ")", () -> marks.stack(3, 0, sign));
        }
        s.says("Promise 32", "if the sign is no mark");
        for (int sign : new int[] {0, 1, 6, 7, 8}) {
            s.illegal("stack(3, 0, " + sign + ")", () -> marks.stack(3, 0, sign));
        }
    }

    private void stripped(int cluster, int side, int due, String left) {
        MarkStacks marks = Texts.with("ac ce ab ac st do ce e st");
        s.due("strip(0, " + cluster + ", " + side + ")", due, () -> marks.strip(0, cluster, side));
        row(left, marks, 0);
    }

    private void stripSides() {
        s.says("Promise 33", "Operation: a line becomes its decomposed form without the marks of a side in a cluster.");
        stripped(0, 0, 1, "+ce a +st +ce +ce +ac +ac +do e +st");
        stripped(2, 1, 0, "+ce +ac a +st +ce +ce +ac +ac +do e +st");
        s.says("Promise 33", "`side`: 0 above, 1 below, 2 through, 3 all sides");
        stripped(1, 0, 3, "+ce +ac a +st +ce +ce e +st");
        stripped(1, 1, 2, "+ce +ac a +st +ac +ac +do e +st");
        stripped(1, 2, 1, "+ce +ac a +ce +ce +ac +ac +do e +st");
        stripped(1, 3, 6, "+ce +ac a e +st");
        s.says("Promise 33", "Returns how many marks went;");
        stripped(0, 3, 2, "a +st +ce +ce +ac +ac +do e +st");
        stripped(2, 2, 1, "+ce +ac a +st +ce +ce +ac +ac +do e");
        stripped(2, 0, 0, "+ce +ac a +st +ce +ce +ac +ac +do e +st");
        s.due("sixty marks", 60, () -> full().strip(0, 0, 0));
    }

    private void strip() {
        s.says("Promise 33", "-2 if the line would have more than 60 signs.");
        MarkStacks full = full();
        s.due("61 of 61", -2, () -> full.strip(1, 0, 1));
        s.due("61 of 61, all sides", -2, () -> full.strip(1, 30, 3));
        s.due("60 of 61", 1, () -> full.strip(1, 0, 0));
        s.due("60 signs then", 60, () -> full.line(1, 0));
        s.due("60 of 60", 0, () -> full.strip(2, 0, 2));
        MarkStacks marks = Texts.usual();
        s.says("Promise 33", "if there is no such line or cluster (checked first)");
        s.noElement("of no clusters", () -> marks.strip(2, 0, 0));
        s.noElement("behind the last cluster", () -> marks.strip(3, 3, 0));
        s.noElement("behind the last cluster, no side", () -> marks.strip(3, 3, 4));
        for (int number : NO_NUMBERS) {
            s.noElement("strip(3, " + number + ", 0)", () -> marks.strip(3, number, 0));
            s.noElement("strip(3, " + number + ", -1)", () -> marks.strip(3, number, -1));
        }
        for (int line : NO_LINES) {
            s.noElement("strip(" + line + ", 0, 0)", () -> marks.strip(line, 0, 0));
            s.noElement("strip(" + line + ", 0, 4)", () -> marks.strip(line, 0, 4));
        }
        s.says("Promise 33", "if side is out of range");
        s.illegal("strip(3, 0, 4)", () -> marks.strip(3, 0, 4));
        for (int side : NO_NUMBERS) {
            s.illegal("strip(3, 0, " + side + ")", () -> marks.strip(3, 0, side));
        }
    }

    private void decompose() {
        MarkStacks marks = Texts.usual();
        s.says("Promise 34", "Returns how many signs it has then;");
        s.due("decompose(0)", 7, () -> marks.decompose(0));
        s.due("decompose(0) again", 7, () -> marks.decompose(0));
        s.due("decompose(2)", 0, () -> marks.decompose(2));
        s.says("Promise 34", "Operation: a line becomes its decomposed form.");
        row("a +ce +do +ac e e +ce", marks, 0);
        row("", marks, 2);
        s.says("Promise 34", "-2 if these would be more than 60.");
        s.due("61", -2, () -> full().decompose(1));
        s.due("60", 60, () -> full().decompose(2));
        s.due("360", -2, () -> Check.loaded("base a 1 1 1 1;mark m 1 above 1 1 1;pair b a m;pair c b m;pair d c m;"
                + "pair e d m;pair f e m;line" + Texts.times(60, " f") + ";").decompose(0));
        s.says("Promise 34", "if there is no such line");
        for (int line : NO_LINES) {
            s.noElement("decompose(" + line + ")", () -> marks.decompose(line));
        }
    }

    private void compose() {
        MarkStacks marks = Texts.usual();
        s.says("Promise 35", "Returns how many signs it has then;");
        s.due("compose(1)", 2, () -> marks.compose(1));
        s.due("compose(3)", 5, () -> marks.compose(3));
        s.due("compose(3) again", 5, () -> marks.compose(3));
        s.due("compose(2)", 0, () -> marks.compose(2));
        s.says("Promise 35", "Operation: a line becomes its composed form.");
        row("*ec +st", marks, 1);
        row("+ac *aa *aa +st +ce", marks, 3);
        s.says("Promise 35", "-2 if these would be more than 60.");
        MarkStacks full = full();
        s.due("31", 31, () -> full.compose(1));
        full.setSpare(6, true);
        s.due("61", -2, () -> full.compose(1));
        s.due("60", 60, () -> full.compose(2));
        s.says("Promise 35", "if there is no such line");
        for (int line : NO_LINES) {
            s.noElement("compose(" + line + ")", () -> marks.compose(line));
        }
    }

    private void join() {
        MarkStacks marks = Texts.usual();
        s.says("Promise 36", "Returns how many signs the line has then;");
        s.due("join(1, 3)", 7, () -> marks.join(1, 3));
        s.due("join(3, 3)", 8, () -> marks.join(3, 3));
        s.due("join(2, 2)", 0, () -> marks.join(2, 2));
        s.says("Promise 36", "Operation: the signs of another line (or the same one) come behind those of a line, as they are "
                + "written;");
        row("e +st +ce +ac *aa *ab +st", marks, 1);
        row("+ac *aa *ab +st +ac *aa *ab +st", marks, 3);
        row("", marks, 2);
        s.says("Promise 36", "the other line stays.");
        s.due("join(2, 0)", 6, () -> marks.join(2, 0));
        row("a +do +ce +ac e *ec", marks, 0);
        s.says("Promise 36", "-2 if these would be more than 60.");
        s.due("61 of 60 and 1", -2, () -> Check.loaded(Texts.SIGNS + "line" + Texts.times(60, " a") + ";line a;").join(0, 1));
        s.due("61 of 1 and 60", -2, () -> Check.loaded(Texts.SIGNS + "line" + Texts.times(60, " a") + ";line a;").join(1, 0));
        s.due("120", -2, () -> full().join(0, 0));
        s.due("62", -2, () -> full().join(1, 1));
        s.due("60 of 30 and 30", 60, () -> full().join(2, 2));
        s.due("60 of 60 and 0", 60, () -> full().join(0, 3));
        s.due("60 of 0 and 60", 60, () -> full().join(3, 0));
        s.says("Promise 36", "if there is no such line");
        for (int line : NO_LINES) {
            s.noElement("join(" + line + ", 0)", () -> marks.join(line, 0));
            s.noElement("join(0, " + line + ")", () -> marks.join(0, line));
        }
    }

    private void setClass() {
        MarkStacks marks = Texts.usual();
        s.says("Promise 37", "Returns the class before;");
        s.due("setClass(3, 4)", 10, () -> marks.setClass(3, 4));
        s.due("setClass(3, 4) again", 4, () -> marks.setClass(3, 4));
        s.says("Promise 37", "Operation: sets the class of a mark.");
        s.due("sign(3, 1)", 4, () -> marks.sign(3, 1));
        s.text("the decomposed form", "a +do +ce +ac e e +ce", Check.written(marks, 0, 1));
        s.says("Promise 37", "`cls`: 1 to 60");
        s.due("60", 4, () -> marks.setClass(3, 60));
        s.due("1, of the mark through itself", 1, () -> marks.setClass(5, 1));
        s.due("2", 1, () -> marks.setClass(5, 2));
        s.due("1, which no mark has", 60, () -> marks.setClass(3, 1));
        s.says("Promise 37", "-2 if another mark has this class and another side.");
        s.due("a class of a mark below", -2, () -> marks.setClass(3, 5));
        s.due("a class of a mark through", -2, () -> marks.setClass(3, 2));
        s.due("a class of a mark above", -2, () -> marks.setClass(5, 1));
        s.due("a class of a mark of its side", 1, () -> marks.setClass(3, 10));
        s.due("a class that nobody else has", 2, () -> marks.setClass(5, 1));
        MarkStacks alone = Check.loaded("base a 1 1 1 1;mark m 1 above 1 1 1;pair p a m;pair q p m;line;");
        for (int cls = 2; cls <= 60; cls++) {
            int asked = cls;
            s.due("the only mark, to " + cls, cls - 1, () -> alone.setClass(1, asked));
        }
        s.says("Promise 37", "if there is no such sign (checked first)");
        for (int sign : NO_SIGNS) {
            s.noElement("setClass(" + sign + ", 5)", () -> marks.setClass(sign, 5));
            s.noElement("setClass(" + sign + ", 0)", () -> marks.setClass(sign, 0));
        }
        s.says("Promise 37", "if it is no mark, or cls is out of range");
        for (int sign : new int[] {0, 1, 6, 7, 8}) {
            s.illegal("setClass(" + sign + ", 10)", () -> marks.setClass(sign, 10));
        }
        for (int cls : new int[] {0, 61, -1, Integer.MIN_VALUE, Integer.MAX_VALUE}) {
            s.illegal("setClass(3, " + cls + ")", () -> marks.setClass(3, cls));
        }
    }

    private void setSpare() {
        MarkStacks marks = Texts.usual();
        s.says("Promise 38", "Returns 1 if it was spare, otherwise 0.");
        s.due("setSpare(7, true)", 1, () -> marks.setSpare(7, true));
        s.due("setSpare(7, false)", 1, () -> marks.setSpare(7, false));
        s.due("setSpare(7, false) again", 0, () -> marks.setSpare(7, false));
        s.due("setSpare(6, true)", 0, () -> marks.setSpare(6, true));
        s.says("Promise 38", "Operation: sets whether a composed sign is spare.");
        s.due("sign(7, 5)", 0, () -> marks.sign(7, 5));
        s.due("sign(6, 5)", 1, () -> marks.sign(6, 5));
        s.text("the composed form", "+ac a +ac a +st +ce +ac", Check.written(marks, 3, 2));
        s.says("Promise 38", "if there is no such sign (checked first)");
        for (int sign : NO_SIGNS) {
            s.noElement("setSpare(" + sign + ", true)", () -> marks.setSpare(sign, true));
        }
        s.says("Promise 38", "if it is not composed");
        for (int sign = 0; sign < 6; sign++) {
            int asked = sign;
            s.illegal("setSpare(" + sign + ", true)", () -> marks.setSpare(asked, true));
            s.illegal("setSpare(" + sign + ", false)", () -> marks.setSpare(asked, false));
        }
    }
}
