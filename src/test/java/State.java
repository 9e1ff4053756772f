/** All that an object tells of itself, as one text, by some 250 calls; the object is used up by them. */
final class State {
    private final MarkStacks marks;
    private final StringBuilder text = new StringBuilder();

    private State(MarkStacks itsMarks) {
        marks = itsMarks;
    }

    static String of(MarkStacks marks) {
        State state = new State(marks);
        state.add("error at", marks.errorPosition());
        state.text.append(Check.formatted(marks)).append(' ');
        state.addScript();
        state.addHistory();
        state.add("snapshot", Check.bit(marks.restoreSnapshot()));
        state.addScript();
        state.add("fed", marks.feed(0x20202020, 0x20202020, 0x20202020, 0x20202020, 0x20202020));
        return state.text.toString();
    }

    private void add(String name, long value) {
        text.append(name).append(' ').append(value).append("; ");
    }

    private void addScript() {
        for (int what = 0; what < 7; what++) {
            add("size", marks.size(what));
        }
        for (int sign = 0; sign < marks.size(0); sign++) {
            add("letter", marks.letter(sign, 0));
            add("class", marks.sign(sign, 1));
            add("spare", marks.sign(sign, 5));
        }
        for (int line = 0; line < marks.size(5); line++) {
            text.append("line ").append(row(marks, line));
        }
    }

    /** The numbers of the signs of a line as it is written, by fewer calls than its text takes. */
    static String row(MarkStacks marks, int line) {
        StringBuilder row = new StringBuilder();
        int signs = marks.line(line, 0);
        for (int place = 0; place < signs; place++) {
            row.append(marks.at(line, 0, place)).append(' ');
        }
        return row.toString();
    }

    private void addHistory() {
        add("undos", marks.undoCount());
        for (int i = 0; i <= 10; i++) {
            add("undo", marks.undo());
        }
        addScript();
    }

    /** Fills everything that a refused call could change by mistake. */
    static MarkStacks filled() {
        MarkStacks marks = Texts.usual();
        marks.type(2, 0, 3);
        marks.saveSnapshot();
        marks.setClass(2, 44);
        marks.setSpare(7, false);
        marks.hand(2);
        marks.format(3, 0);
        Check.query(marks, "many what");
        Check.feed(marks, "many place = place");
        return marks;
    }
}
