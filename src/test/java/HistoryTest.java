/** Promises 39 to 44: the text of a line, undoing and the snapshot. */
public final class HistoryTest {
    private final Check check = new Check("HistoryTest");

    public static void main(String[] args) {
        HistoryTest test = new HistoryTest();
        test.formatting();
        test.longestText();
        test.textStays();
        test.undoing();
        test.whatUndoingLeaves();
        test.snapshots();
        test.check.end();
    }

    private void formatting() {
        MarkStacks marks = Texts.usual();
        check.due("39: format(0, 0)", 19, () -> marks.format(0, 0));
        check.dueText("40: its bytes", "a +do +ce +ac e *ec", Check.formatted(marks));
        check.due("39: format(3, 2)", 19, () -> marks.format(3, 2));
        check.dueText("40: its bytes", "+ac *aa *aa +st +ce", Check.formatted(marks));
        check.due("40: formattedByte(18)", 'e', () -> marks.formattedByte(18));
        check.due("40: formattedByte(19)", -1, () -> marks.formattedByte(19));
        check.due("40: formattedByte(-1)", -1, () -> marks.formattedByte(-1));
        check.due("40: the least number", -1, () -> marks.formattedByte(Integer.MIN_VALUE));
        check.due("40: the greatest number", -1, () -> marks.formattedByte(Integer.MAX_VALUE));
        check.due("39: format(4, 0)", Check.NO_ELEMENT, () -> marks.format(4, 0));
        check.due("39: format(-1, 0)", Check.NO_ELEMENT, () -> marks.format(-1, 0));
        check.due("39: format(0, 3)", Check.NO_ELEMENT, () -> marks.format(0, 3));
        check.due("39: format(0, -1)", Check.NO_ELEMENT, () -> marks.format(0, -1));
        check.dueText("40: the text stays", "+ac *aa *aa +st +ce", Check.formatted(marks));
        check.due("39: without signs", 0, () -> marks.format(2, 0));
        check.due("40: an empty text", -1, () -> marks.formattedByte(0));
    }

    private void longestText() {
        MarkStacks marks = Check.loaded("base abcd 1 1 1 1;mark efgh 1 above 1 1 1;pair a abcd efgh spare;"
                + "pair b a efgh spare;pair c b efgh spare;pair d c efgh spare;pair e d efgh spare;line"
                + Texts.times(60, " e") + ";");
        check.due("39: the longest text", 60 * 4 + 300 * 5 + 359, () -> marks.format(0, 2));
        check.due("40: its last byte", 'h', () -> marks.formattedByte(2098));
        check.due("40: behind it", -1, () -> marks.formattedByte(2099));
    }

    private void textStays() {
        MarkStacks marks = Texts.usual();
        marks.saveSnapshot();
        marks.type(1, 0, 0);
        marks.format(1, 0);
        String text = "a e +st +ce";
        marks.undo();
        check.dueText("40: behind undo", text, Check.formatted(marks));
        marks.restoreSnapshot();
        check.dueText("40: behind restoreSnapshot", text, Check.formatted(marks));
        marks.erase(1, 0, 1);
        check.dueText("40: behind an operation", text, Check.formatted(marks));
        Check.load(marks, "line;");
        check.dueText("40: behind load", text, Check.formatted(marks));
        Check.load(marks, "line");
        check.dueText("40: behind a load with an error", text, Check.formatted(marks));
    }

    private void undoing() {
        MarkStacks marks = Texts.usual();
        for (int i = 1; i <= 13; i++) {
            marks.type(2, i - 1, i % 9);
            int due = Math.min(i, 10);
            check.due("41: undoCount() behind " + i, due, marks::undoCount);
        }
        for (int left = 9; left >= 0; left--) {
            int due = left;
            check.due("42: undo()", due, marks::undo);
            check.due("42: the line is shorter", 3 + left, () -> marks.line(2, 0));
        }
        check.due("42: undo() of nothing", -1, marks::undo);
        check.due("42: three signs stay", 3, () -> marks.line(2, 0));
        // Behind undoing, new operations are recorded as ever.
        marks.hand(2);
        marks.setClass(3, 40);
        marks.setSpare(6, true);
        marks.join(2, 0);
        check.due("42: undo()", 3, marks::undo);
        check.due("42: the line", 3, () -> marks.line(2, 0));
        check.due("42: undo()", 2, marks::undo);
        check.due("42: spare", 0, () -> marks.sign(6, 5));
        check.due("42: the class is new yet", 40, () -> marks.sign(3, 1));
        check.due("42: undo()", 1, marks::undo);
        check.due("42: the class", 10, () -> marks.sign(3, 1));
        check.due("42: undo()", 0, marks::undo);
        check.due("42: the hand", 1, () -> marks.size(6));
        refusedAreNotRecorded(marks);
    }

    private void refusedAreNotRecorded(MarkStacks marks) {
        check.due("41: an exception", Check.NO_ELEMENT, () -> marks.hand(9));
        check.due("41: a code", -2, () -> marks.setClass(3, 5));
        check.due("41: neither is recorded", 0, marks::undoCount);
        check.due("41: what changes nothing is recorded", 1, () -> {
            marks.hand(1);
            return marks.undoCount();
        });
    }

    private void whatUndoingLeaves() {
        MarkStacks marks = Texts.usual();
        marks.hand(0);
        Check.query(marks, "many what");
        Check.feed(marks, "line;");
        marks.saveSnapshot();
        marks.undo();
        check.due("42: the error position stays", 5, marks::errorPosition);
        check.due("42: the buffer stays", 40, () -> Check.feed(marks, "line;"));
        check.due("42: the snapshot stays", 1, () -> Check.bit(marks.restoreSnapshot()));
        check.due("44: the hand of the snapshot", 0, () -> marks.size(6));
        check.due("44: the buffer stays", 60, () -> Check.feed(marks, "line;"));
        check.due("44: the error position stays", 5, marks::errorPosition);
    }

    private void snapshots() {
        MarkStacks marks = Texts.usual();
        check.due("44: none", 0, () -> Check.bit(marks.restoreSnapshot()));
        marks.hand(3);
        marks.setClass(3, 40);
        check.due("44: none changes nothing", 2, marks::undoCount);
        marks.saveSnapshot();
        check.due("43: the history stays", 2, marks::undoCount);
        marks.setClass(3, 41);
        marks.setSpare(7, false);
        marks.erase(0, 0, 5);
        marks.hand(0);
        check.due("44: restoreSnapshot()", 1, () -> Check.bit(marks.restoreSnapshot()));
        check.due("44: the history is cleared", 0, marks::undoCount);
        check.due("44: nothing to undo", -1, marks::undo);
        check.due("44: the class", 40, () -> marks.sign(3, 1));
        check.due("44: spare", 1, () -> marks.sign(7, 5));
        check.due("44: the line", 6, () -> marks.line(0, 0));
        check.due("44: the hand", 3, () -> marks.size(6));
        marks.type(2, 0, 0);
        check.due("44: it is kept", 1, () -> Check.bit(marks.restoreSnapshot()));
        check.due("44: the line", 0, () -> marks.line(2, 0));
        marks.type(2, 0, 0);
        marks.saveSnapshot();
        marks.type(2, 0, 0);
        check.due("43: it replaces an earlier one", 1, () -> {
            marks.restoreSnapshot();
            return marks.line(2, 0);
        });
    }
}
