/** Promises 29 to 38: operations, each with what it refuses, and that refusing changes nothing. */
public final class OperationsTest {
    private final Check check = new Check("OperationsTest");

    public static void main(String[] args) {
        OperationsTest test = new OperationsTest();
        test.hand();
        test.type();
        test.erase();
        test.stack();
        test.strip();
        test.decompose();
        test.compose();
        test.join();
        test.setClass();
        test.setSpare();
        test.check.end();
    }

    private void row(MarkStacks marks, int line, String due) {
        check.dueText("the line " + line, due, Check.written(marks, line, 0));
    }

    private void undos(MarkStacks marks, int due) {
        check.due("41: undoCount()", due, marks::undoCount);
    }

    private void hand() {
        MarkStacks marks = Texts.usual();
        check.due("29: hand(3)", 1, () -> marks.hand(3));
        check.due("29: hand(3) again", 3, () -> marks.hand(3));
        check.due("5: size(6)", 3, () -> marks.size(6));
        undos(marks, 2);
        check.due("29: hand(4)", Check.NO_ELEMENT, () -> marks.hand(4));
        check.due("29: hand(-1)", Check.NO_ELEMENT, () -> marks.hand(-1));
        undos(marks, 2);
        marks.undo();
        marks.undo();
        check.due("29: undone", 1, () -> marks.size(6));
    }

    private void type() {
        MarkStacks marks = Texts.usual();
        check.due("30: type(2, 0, 7)", 3, () -> marks.type(2, 0, 7));
        check.due("30: behind all", 4, () -> marks.type(2, 1, 2));
        check.due("30: ahead of all", 5, () -> marks.type(2, 0, 3));
        check.due("30: between", 6, () -> marks.type(2, 2, 1));
        row(marks, 2, "+do *ab e +ac");
        undos(marks, 4);
        check.due("30: place 5", Check.ILLEGAL, () -> marks.type(2, 5, 0));
        check.due("30: place -1", Check.ILLEGAL, () -> marks.type(2, -1, 0));
        check.due("30: no such line first", Check.NO_ELEMENT, () -> marks.type(4, -1, 0));
        check.due("30: no such line", Check.NO_ELEMENT, () -> marks.type(-1, 0, 0));
        check.due("30: no such sign first", Check.NO_ELEMENT, () -> marks.type(2, 5, 9));
        check.due("30: no such sign", Check.NO_ELEMENT, () -> marks.type(2, 0, -1));
        undos(marks, 4);
        marks.undo();
        row(marks, 2, "+do *ab +ac");
        MarkStacks full = Texts.with(Texts.times(59, " a"));
        check.due("30: the sixtieth", 61, () -> full.type(0, 59, 6));
        check.due("30: the sixty-first", -2, () -> full.type(0, 60, 6));
        check.due("30: exceptions ahead of codes", Check.ILLEGAL, () -> full.type(0, 61, 6));
        check.due("30: exceptions ahead of codes", Check.NO_ELEMENT, () -> full.type(0, 0, 9));
        undos(full, 1);
    }

    private void erase() {
        MarkStacks marks = Texts.usual();
        check.due("31: erase(0, 1, 3)", 3, () -> marks.erase(0, 1, 3));
        row(marks, 0, "a e *ec");
        check.due("31: the last one", 2, () -> marks.erase(0, 2, 2));
        check.due("31: all", 0, () -> marks.erase(0, 0, 1));
        row(marks, 0, "");
        undos(marks, 3);
        check.due("31: nothing left", Check.NO_ELEMENT, () -> marks.erase(0, 0, 0));
        check.due("31: to less than from", Check.ILLEGAL, () -> marks.erase(1, 2, 1));
        check.due("31: no such place first", Check.NO_ELEMENT, () -> marks.erase(1, 3, 1));
        check.due("31: no such place", Check.NO_ELEMENT, () -> marks.erase(1, 0, 3));
        check.due("31: no such place", Check.NO_ELEMENT, () -> marks.erase(1, -1, 0));
        check.due("31: no such place first", Check.NO_ELEMENT, () -> marks.erase(1, 1, -1));
        check.due("31: no such line", Check.NO_ELEMENT, () -> marks.erase(4, 0, 0));
        undos(marks, 3);
        marks.undo();
        marks.undo();
        marks.undo();
        row(marks, 0, "a +do +ce +ac e *ec");
    }

    private void stack() {
        MarkStacks marks = Texts.usual();
        check.due("32: behind its class", 3, () -> marks.stack(0, 0, 3));
        row(marks, 0, "a +ce +do +ac +do e e +ce");
        check.due("32: ahead of all", 0, () -> marks.stack(0, 0, 5));
        row(marks, 0, "a +st +ce +do +ac +do e e +ce");
        check.due("32: into the last one", 1, () -> marks.stack(0, 2, 2));
        check.due("32: into one without marks", 0, () -> marks.stack(0, 1, 2));
        row(marks, 0, "a +st +ce +do +ac +do e +ac e +ce +ac");
        check.due("32: into one without a base", 0, () -> marks.stack(3, 0, 5));
        row(marks, 3, "+st +ac a +ac a +st +ce +ac");
        undos(marks, 5);
        check.due("32: a base", Check.ILLEGAL, () -> marks.stack(0, 0, 0));
        check.due("32: a composed sign", Check.ILLEGAL, () -> marks.stack(0, 0, 6));
        check.due("32: no such cluster first", Check.NO_ELEMENT, () -> marks.stack(0, 3, 0));
        check.due("32: no such cluster", Check.NO_ELEMENT, () -> marks.stack(0, -1, 2));
        check.due("32: no cluster", Check.NO_ELEMENT, () -> marks.stack(2, 0, 2));
        check.due("32: no such sign", Check.NO_ELEMENT, () -> marks.stack(0, 0, 9));
        check.due("32: no such line", Check.NO_ELEMENT, () -> marks.stack(4, 0, 2));
        undos(marks, 5);
        marks.undo();
        row(marks, 3, "+ac *aa *ab +st");
        MarkStacks full = Texts.with("ac" + Texts.times(29, " aa"));
        check.due("32: the sixtieth", 1, () -> full.stack(0, 0, 2));
        check.due("32: the sixty-first", -2, () -> full.stack(0, 0, 2));
        check.due("32: exceptions ahead of codes", Check.ILLEGAL, () -> full.stack(0, 0, 0));
        check.due("32: thirty signs became sixty", 60, () -> full.line(0, 0));
        undos(full, 1);
    }

    private void strip() {
        String line = "ac ce ab ac st do ce e st";
        long[] gone = {3, 2, 1, 6};
        String[] left = {
            "+ce +ac a +st +ce +ce e +st", "+ce +ac a +st +ac +ac +do e +st", "+ce +ac a +ce +ce +ac +ac +do e +st",
            "+ce +ac a e +st",
        };
        for (int side = 0; side < 4; side++) {
            MarkStacks marks = Texts.with(line);
            int asked = side;
            check.due("33: strip(0, 1, " + side + ")", gone[side], () -> marks.strip(0, 1, asked));
            row(marks, 0, left[side]);
            undos(marks, 1);
            marks.undo();
            row(marks, 0, "+ac +ce *ab +ac +st +do +ce e +st");
        }
        MarkStacks marks = Texts.with(line);
        check.due("33: a cluster without a base goes", 2, () -> marks.strip(0, 0, 3));
        row(marks, 0, "a +st +ce +ce +ac +ac +do e +st");
        check.due("33: none", 0, () -> marks.strip(0, 1, 0));
        undos(marks, 2);
        check.due("33: strip(0, 0, 4)", Check.ILLEGAL, () -> marks.strip(0, 0, 4));
        check.due("33: strip(0, 0, -1)", Check.ILLEGAL, () -> marks.strip(0, 0, -1));
        check.due("33: no such cluster first", Check.NO_ELEMENT, () -> marks.strip(0, 2, 4));
        check.due("33: no such cluster", Check.NO_ELEMENT, () -> marks.strip(0, -1, 0));
        check.due("33: no such line", Check.NO_ELEMENT, () -> marks.strip(1, 0, 0));
        undos(marks, 2);
        MarkStacks full = Texts.with("a" + Texts.times(30, " aa"));
        check.due("33: sixty-one are left", -2, () -> full.strip(0, 0, 3));
        check.due("33: sixty-one are left", -2, () -> full.strip(0, 1, 1));
        check.due("33: exceptions ahead of codes", Check.ILLEGAL, () -> full.strip(0, 1, 4));
        undos(full, 0);
        check.due("33: the line stays", 31, () -> full.line(0, 0));
        check.due("33: just sixty are left", 1, () -> full.strip(0, 1, 0));
        check.due("33: sixty signs", 60, () -> full.line(0, 0));
    }

    private void decompose() {
        MarkStacks marks = Texts.usual();
        check.due("34: decompose(0)", 7, () -> marks.decompose(0));
        row(marks, 0, "a +ce +do +ac e e +ce");
        check.due("34: again", 7, () -> marks.decompose(0));
        check.due("34: without signs", 0, () -> marks.decompose(2));
        undos(marks, 3);
        check.due("34: decompose(4)", Check.NO_ELEMENT, () -> marks.decompose(4));
        check.due("34: decompose(-1)", Check.NO_ELEMENT, () -> marks.decompose(-1));
        undos(marks, 3);
        MarkStacks full = Texts.with(Texts.times(30, " aa"));
        check.due("34: just sixty", 60, () -> full.decompose(0));
        MarkStacks more = Texts.with(Texts.times(30, " aa") + " a");
        check.due("34: sixty-one", -2, () -> more.decompose(0));
        check.due("34: the line stays", 31, () -> more.line(0, 0));
        undos(more, 0);
    }

    private void compose() {
        MarkStacks marks = Texts.usual();
        check.due("35: compose(1)", 2, () -> marks.compose(1));
        row(marks, 1, "*ec +st");
        check.due("35: compose(3)", 5, () -> marks.compose(3));
        row(marks, 3, "+ac *aa *aa +st +ce");
        check.due("35: without signs", 0, () -> marks.compose(2));
        undos(marks, 3);
        marks.undo();
        marks.undo();
        row(marks, 3, "+ac *aa *ab +st");
        check.due("35: compose(4)", Check.NO_ELEMENT, () -> marks.compose(4));
        check.due("35: compose(-1)", Check.NO_ELEMENT, () -> marks.compose(-1));
        MarkStacks full = Texts.with(Texts.times(30, " ab"));
        check.due("35: just sixty", 60, () -> full.compose(0));
        MarkStacks more = Texts.with(Texts.times(30, " ab") + " a");
        check.due("35: sixty-one", -2, () -> more.compose(0));
        check.due("35: the line stays", 31, () -> more.line(0, 0));
        undos(more, 0);
    }

    private void join() {
        MarkStacks marks = Texts.usual();
        check.due("36: join(1, 3)", 7, () -> marks.join(1, 3));
        row(marks, 1, "e +st +ce +ac *aa *ab +st");
        row(marks, 3, "+ac *aa *ab +st");
        check.due("36: with itself", 8, () -> marks.join(3, 3));
        row(marks, 3, "+ac *aa *ab +st +ac *aa *ab +st");
        check.due("36: without signs", 0, () -> marks.join(2, 2));
        undos(marks, 3);
        check.due("36: join(4, 0)", Check.NO_ELEMENT, () -> marks.join(4, 0));
        check.due("36: join(0, 4)", Check.NO_ELEMENT, () -> marks.join(0, 4));
        check.due("36: join(-1, 0)", Check.NO_ELEMENT, () -> marks.join(-1, 0));
        check.due("36: join(0, -1)", Check.NO_ELEMENT, () -> marks.join(0, -1));
        undos(marks, 3);
        MarkStacks full = Check.loaded(Texts.SIGNS + "line" + Texts.times(30, " a") + ";line e;");
        check.due("36: just sixty", 60, () -> full.join(0, 0));
        check.due("36: sixty-one", -2, () -> full.join(0, 1));
        check.due("36: sixty-one", -2, () -> full.join(1, 0));
        undos(full, 1);
        check.due("36: undone", 30, () -> {
            full.undo();
            return full.line(0, 0);
        });
    }

    private void setClass() {
        MarkStacks marks = Texts.usual();
        check.due("37: setClass(3, 4)", 10, () -> marks.setClass(3, 4));
        check.due("37: its class", 4, () -> marks.sign(3, 1));
        row1(marks, "a +do +ce +ac e e +ce");
        check.due("37: the same class again", 4, () -> marks.setClass(3, 4));
        check.due("37: the greatest", 4, () -> marks.setClass(3, 60));
        row1(marks, "a +ce +ac +do e e +ce");
        check.due("37: the least", 60, () -> marks.setClass(3, 2));
        check.due("37: a class that another mark of its side has", 2, () -> marks.setClass(3, 10));
        undos(marks, 5);
        check.due("37: a class of another side", -2, () -> marks.setClass(3, 5));
        check.due("37: a class of another side", -2, () -> marks.setClass(3, 1));
        check.due("37: class 0", Check.ILLEGAL, () -> marks.setClass(3, 0));
        check.due("37: class 61", Check.ILLEGAL, () -> marks.setClass(3, 61));
        check.due("37: class -5", Check.ILLEGAL, () -> marks.setClass(3, -5));
        check.due("37: a base", Check.ILLEGAL, () -> marks.setClass(0, 5));
        check.due("37: a composed sign", Check.ILLEGAL, () -> marks.setClass(6, 5));
        check.due("37: no such sign first", Check.NO_ELEMENT, () -> marks.setClass(9, 0));
        check.due("37: no such sign", Check.NO_ELEMENT, () -> marks.setClass(-1, 5));
        undos(marks, 5);
        marks.undo();
        check.due("37: undone", 2, () -> marks.sign(3, 1));
        check.due("37: a class that no mark has any more", 5, () -> marks.setClass(4, 9));
        check.due("37: is free for another side", 2, () -> marks.setClass(3, 5));
    }

    private void row1(MarkStacks marks, String due) {
        check.dueText("1: the decomposed form", due, Check.written(marks, 0, 1));
    }

    private void setSpare() {
        MarkStacks made = Check.loaded("base a 1 1 1 1;mark m 1 above 1 1 1;pair x a m spare;line x;");
        check.due("38: a spare one is not made", 2, () -> made.line(0, 2));
        check.due("38: setSpare(2, false)", 1, () -> made.setSpare(2, false));
        check.due("38: one that is not spare is", 1, () -> made.line(0, 2));
        MarkStacks marks = Texts.usual();
        check.due("38: setSpare(7, false)", 1, () -> marks.setSpare(7, false));
        check.due("38: again", 0, () -> marks.setSpare(7, false));
        check.due("38: setSpare(6, true)", 0, () -> marks.setSpare(6, true));
        check.due("38: it is not made then", 7, () -> marks.line(3, 2));
        check.due("5: spare ones", 1, () -> marks.size(4));
        undos(marks, 3);
        check.due("38: a base", Check.ILLEGAL, () -> marks.setSpare(0, true));
        check.due("38: a mark", Check.ILLEGAL, () -> marks.setSpare(2, true));
        check.due("38: setSpare(9, true)", Check.NO_ELEMENT, () -> marks.setSpare(9, true));
        check.due("38: setSpare(-1, true)", Check.NO_ELEMENT, () -> marks.setSpare(-1, true));
        undos(marks, 3);
        marks.undo();
        marks.undo();
        marks.undo();
        check.due("38: undone", 1, () -> marks.sign(7, 5));
        check.due("38: undone", 0, () -> marks.sign(6, 5));
    }
}
