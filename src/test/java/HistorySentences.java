/** The sentences on the text of a line, undoing and the snapshot: promises 39 to 44. */
final class HistorySentences {
    private static final int[] NO_LINES = {-1, 4, Integer.MIN_VALUE, Integer.MAX_VALUE};
    private static final int[] NO_FORMS = {-1, 3, Integer.MIN_VALUE, Integer.MAX_VALUE};

    private final Sentences s;

    private HistorySentences(Sentences sentences) {
        s = sentences;
    }

    static void check(Sentences sentences) {
        HistorySentences history = new HistorySentences(sentences);
        history.format();
        history.longest();
        history.formatRefused();
        history.formattedByte();
        history.textStays();
        history.undoCount();
        history.undo();
        history.saveSnapshot();
        history.restoreSnapshot();
        history.noSnapshot();
    }

    private void format() {
        MarkStacks marks = Check.loaded("base a 1 1 1 1;base abcd 1 1 1 1;mark m 1 above 1 1 1;mark efgh 1 above 1 1 1;"
                + "pair p a m;line a abcd;line m efgh;line p p;line a abcd m efgh p;");
        s.says("Promise 39", "Formats a line as text: the names of its signs, with ' ' between two;");
        s.text("two signs", "a abcd", Check.written(marks, 0, 0));
        s.text("one sign", "a", Check.written(Texts.with("a"), 0, 0));
        s.says("Promise 39", "a sign '+' ahead of the name of a mark, '*' ahead of that of a composed sign.");
        s.text("marks", "+m +efgh", Check.written(marks, 1, 0));
        s.text("composed signs", "*p *p", Check.written(marks, 2, 0));
        s.text("all", "a abcd +m +efgh *p", Check.written(marks, 3, 0));
        s.says("Promise 39", "A line without signs is an empty text.");
        MarkStacks usual = Texts.usual();
        usual.format(0, 0);
        for (int form = 0; form < 3; form++) {
            int asked = form;
            s.due("format(2, " + form + ")", 0, () -> usual.format(2, asked));
            s.due("formattedByte(0)", -1, () -> usual.formattedByte(0));
        }
        s.says("Promise 39", "`form`: 0 as it is written, 1 its decomposed form, 2 its composed form");
        s.text("form 0", "+ac *aa *ab +st", Check.written(usual, 3, 0));
        s.text("form 1", "+ac a +ac a +st +ce +ac", Check.written(usual, 3, 1));
        s.text("form 2", "+ac *aa *aa +st +ce", Check.written(usual, 3, 2));
        s.says("Promise 39", "Returns the number of bytes of the text.");
        s.due("format(3, 0)", 15, () -> usual.format(3, 0));
        s.due("format(3, 1)", 23, () -> usual.format(3, 1));
        s.due("one byte", 1, () -> Texts.with("a").format(0, 0));
    }

    private void longest() {
        s.says("Promise 39", "Returns the number of bytes of the text.");
        MarkStacks marks = Check.loaded("base abcd 1 1 1 1;mark efgh 1 above 1 1 1;pair a abcd efgh spare;"
                + "pair b a efgh spare;pair c b efgh spare;pair d c efgh spare;pair e d efgh spare;line"
                + Texts.times(60, " e") + ";line" + Texts.times(60, " efgh") + ";");
        for (int form = 1; form < 3; form++) {
            int asked = form;
            s.due("of the longest text", 60 * 4 + 300 * 5 + 359, () -> marks.format(0, asked));
            s.due("its first byte", 'a', () -> marks.formattedByte(0));
            s.due("its last byte", 'h', () -> marks.formattedByte(2098));
            s.due("behind it", -1, () -> marks.formattedByte(2099));
        }
        s.due("of sixty marks", 359, () -> marks.format(1, 0));
    }

    private void formatRefused() {
        s.says("Promise 39", "if there is no such line or form");
        MarkStacks marks = Texts.usual();
        for (int line : NO_LINES) {
            s.noElement("format(" + line + ", 0)", () -> marks.format(line, 0));
        }
        for (int form : NO_FORMS) {
            s.noElement("format(0, " + form + ")", () -> marks.format(0, form));
            s.noElement("format(2, " + form + ")", () -> marks.format(2, form));
        }
    }

    private void formattedByte() {
        s.says("Promise 40", "Returns the byte at index of the text of the most recent call of format");
        MarkStacks marks = Texts.usual();
        marks.format(3, 0);
        marks.format(1, 0);
        String due = "e +st +ce";
        for (int i = 0; i < due.length(); i++) {
            int asked = i;
            s.due("formattedByte(" + i + ")", due.charAt(i), () -> marks.formattedByte(asked));
        }
        s.says("Promise 40", "NONE if index is out of range or there was no such call.");
        for (int index : new int[] {9, 10, 15, -1, 2160, 5000, Integer.MIN_VALUE, Integer.MAX_VALUE}) {
            s.due("formattedByte(" + index + ")", -1, () -> marks.formattedByte(index));
        }
        MarkStacks fresh = Texts.usual();
        for (int index : new int[] {0, 1, -1, Integer.MIN_VALUE, Integer.MAX_VALUE}) {
            s.due("formattedByte(" + index + ") without a call of format", -1, () -> fresh.formattedByte(index));
        }
    }

    private void textStays() {
        s.says("Promise 40", "as it was then (also behind load, undo and restoreSnapshot);");
        MarkStacks marks = Texts.usual();
        marks.saveSnapshot();
        marks.type(1, 0, 0);
        marks.format(1, 0);
        String text = "a e +st +ce";
        marks.undo();
        s.text("behind undo", text, Check.formatted(marks));
        marks.restoreSnapshot();
        s.text("behind restoreSnapshot", text, Check.formatted(marks));
        marks.erase(1, 0, 2);
        marks.setClass(4, 60);
        s.text("behind operations", text, Check.formatted(marks));
        Check.load(marks, "base q 1 1 1 1;line q;");
        s.text("behind load", text, Check.formatted(marks));
        Check.load(marks, "line");
        s.text("behind a load with an error", text, Check.formatted(marks));
    }

    private void undoCount() {
        s.says("Promise 41", "Returns the number of operations that can be undone.");
        MarkStacks marks = Texts.usual();
        s.due("none", 0, marks::undoCount);
        for (int i = 1; i <= 25; i++) {
            marks.hand(i % 4);
            s.due("behind " + i, Math.min(i, 10), marks::undoCount);
        }
        marks.undo();
        s.due("behind undo()", 9, marks::undoCount);
        marks.hand(0);
        marks.hand(0);
        s.due("behind two more", 10, marks::undoCount);
    }

    private void undo() {
        MarkStacks marks = Texts.usual();
        marks.hand(2);
        marks.hand(3);
        marks.hand(0);
        marks.undo();
        s.says("Promise 42", "Undoes the most recent operation.");
        s.due("the hand", 3, () -> marks.size(6));
        s.says("Promise 42", "Returns the number of operations that can still be undone;");
        s.due("undo()", 1, marks::undo);
        s.due("the last undo()", 0, marks::undo);
        s.says("Promise 42", "NONE if there was nothing to undo.");
        s.due("undo()", -1, marks::undo);
        s.due("undo() again", -1, marks::undo);
        s.due("the hand stays", 1, () -> marks.size(6));
        s.due("undo() of a new object", -1, () -> new MarkStacks().undo());
        marks.hand(3);
        s.due("undo() of what came then", 0, marks::undo);
        s.due("the hand", 1, () -> marks.size(6));
        for (int i = 0; i < 11; i++) {
            marks.hand(2 + i % 2);
        }
        for (int i = 9; i >= 0; i--) {
            int left = i;
            s.due("undo() of eleven", left, marks::undo);
        }
        s.due("undo() of the eleventh", -1, marks::undo);
        s.due("the hand of the first one stays", 2, () -> marks.size(6));
    }

    private void saveSnapshot() {
        s.says("Promise 43", "Saves a snapshot of everything that undoing restores.");
        MarkStacks marks = Texts.usual();
        marks.hand(3);
        marks.setClass(3, 40);
        marks.setSpare(6, true);
        marks.saveSnapshot();
        s.due("the history stays", 3, marks::undoCount);
        marks.setClass(3, 41);
        marks.setSpare(7, false);
        marks.setSpare(6, false);
        for (int line = 0; line < 4; line++) {
            marks.type(line, 0, 5);
        }
        marks.hand(0);
        marks.restoreSnapshot();
        s.due("the class", 40, () -> marks.sign(3, 1));
        s.due("spare", 1, () -> marks.sign(7, 5));
        s.due("spare", 1, () -> marks.sign(6, 5));
        s.due("the hand", 3, () -> marks.size(6));
        long[] signs = {6, 3, 0, 4};
        for (int line = 0; line < 4; line++) {
            int asked = line;
            s.due("the line " + line, signs[line], () -> marks.line(asked, 0));
        }
        s.says("Promise 43", "It replaces an earlier snapshot.");
        for (int round = 0; round < 6; round++) {
            boolean spare = round % 2 == 0;
            marks.hand(1 + round % 2);
            marks.setClass(3, 50 + round);
            marks.setSpare(6, spare);
            marks.type(2, round, 0);
            marks.saveSnapshot();
            marks.hand(0);
            marks.setClass(3, 11);
            marks.setSpare(6, !spare);
            marks.erase(2, 0, round);
            marks.restoreSnapshot();
            s.due("the hand", 1 + round % 2, () -> marks.size(6));
            s.due("the class", 50 + round, () -> marks.sign(3, 1));
            s.due("spare", Check.bit(spare), () -> marks.sign(6, 5));
            s.due("the line 2", 1 + round, () -> marks.line(2, 0));
        }
    }

    private void restoreSnapshot() {
        MarkStacks marks = Texts.usual();
        marks.saveSnapshot();
        marks.hand(3);
        s.says("Promise 44", "Returns true;");
        s.due("restoreSnapshot()", 1, () -> Check.bit(marks.restoreSnapshot()));
        s.says("Promise 44", "Restores the snapshot and clears the undo history.");
        s.due("the hand", 1, () -> marks.size(6));
        s.due("undoCount()", 0, marks::undoCount);
        s.due("undo()", -1, marks::undo);
        s.says("Promise 44", "The snapshot is kept.");
        marks.hand(2);
        s.due("restoreSnapshot() again", 1, () -> Check.bit(marks.restoreSnapshot()));
        s.due("the hand", 1, () -> marks.size(6));
        s.due("restoreSnapshot() once more", 1, () -> Check.bit(marks.restoreSnapshot()));
    }

    private void noSnapshot() {
        s.says("Promise 44", "false if there is no snapshot (nothing changes).");
        s.due("restoreSnapshot() of a new object", 0, () -> Check.bit(new MarkStacks().restoreSnapshot()));
        MarkStacks marks = Texts.usual();
        marks.hand(3);
        marks.setClass(3, 40);
        s.due("restoreSnapshot()", 0, () -> Check.bit(marks.restoreSnapshot()));
        s.due("undoCount()", 2, marks::undoCount);
        s.due("the class", 40, () -> marks.sign(3, 1));
        s.due("the hand", 3, () -> marks.size(6));
        s.due("undo()", 1, marks::undo);
        marks.saveSnapshot();
        Check.load(marks, "line;line;");
        s.due("behind a load", 0, () -> Check.bit(marks.restoreSnapshot()));
        s.due("the lines of the load", 2, () -> marks.size(5));
    }
}
