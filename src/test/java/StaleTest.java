/**
 * What an earlier call left behind must not answer a later one: signs and lines of an earlier text,
 * forms of an earlier line, and the sign with the number 0 where it is a mark.
 */
public final class StaleTest {
    private final Check check = new Check("StaleTest");

    public static void main(String[] args) {
        StaleTest test = new StaleTest();
        test.fewerSigns();
        test.failedTexts();
        test.otherLines();
        test.markFirst();
        test.memories();
        test.keywords();
        test.check.end();
    }

    private void fewerSigns() {
        MarkStacks marks = Texts.usual();
        check.due("3: a text with two signs", 2,
                () -> Check.load(marks, "base b 1 2 0 0;mark n 7 above 1 1 0;line b n;line;"));
        check.due("5: bases", 1, () -> marks.size(1));
        check.due("5: marks", 1, () -> marks.size(2));
        check.due("5: composed signs", 0, () -> marks.size(3));
        check.due("5: spare ones", 0, () -> marks.size(4));
        check.due("8: expanded(7, 0)", Check.NO_ELEMENT, () -> marks.expanded(7, 0));
        check.due("10: used(0)", 0, () -> marks.used(0));
        check.due("25: saved(0, 6)", Check.NO_ELEMENT, () -> marks.saved(0, 6));
        check.due("26: bestClass(0, 2)", Check.NO_ELEMENT, () -> marks.bestClass(0, 2));
        check.due("30: type(0, 0, 2)", Check.NO_ELEMENT, () -> marks.type(0, 0, 2));
        check.due("32: stack(0, 0, 2)", Check.NO_ELEMENT, () -> marks.stack(0, 0, 2));
        check.due("36: join(0, 3)", Check.NO_ELEMENT, () -> marks.join(0, 3));
        check.due("37: a class of a mark that there is not", 7, () -> marks.setClass(1, 5));
        check.due("37: setClass(2, 5)", Check.NO_ELEMENT, () -> marks.setClass(2, 5));
        check.due("38: setSpare(7, true)", Check.NO_ELEMENT, () -> marks.setSpare(7, true));
        check.due("13: at(3, 0, 0)", Check.NO_ELEMENT, () -> marks.at(3, 0, 0));
        check.due("12: line(0, 2)", 2, () -> marks.line(0, 2));
        check.due("3: a text with a pair", 3,
                () -> Check.load(marks, "base b 1 2 0 0;mark n 7 above 1 1 0;pair c b n;line b n;"));
        check.due("6: sign(2, 6)", 0, () -> marks.sign(2, 6));
        check.due("9: pairOf(0, 1)", 2, () -> marks.pairOf(0, 1));
    }

    private void failedTexts() {
        MarkStacks marks = new MarkStacks();
        check.due("3: an error behind four lines", -15,
                () -> Check.load(marks, Texts.SIGNS + "line a;line a e;line e;line;line;"));
        check.due("3: a text with the same signs", 9, () -> Check.load(marks, Texts.SIGNS + "line;line ac;"));
        check.due("12: line(0, 0)", 0, () -> marks.line(0, 0));
        check.due("12: line(1, 0)", 1, () -> marks.line(1, 0));
        check.due("5: lines", 2, () -> marks.size(5));
        check.due("3: names of a failed text", -14, () -> Check.load(marks, "line a;"));
        check.due("3: the name of a failed text is free", 1, () -> Check.load(marks, "base a 1 1 1 1;line a;"));
        check.due("3: classes of a failed text", -11,
                () -> Check.load(marks, "mark m 3 above 1 1 1;mark n 4 below 1 1 1;line m n"));
        check.due("3: the class of a failed text is free", 1, () -> Check.load(marks, "mark m 4 above 1 1 1;line m;"));
        check.due("3: a spare one", -11, () -> Check.load(marks, "base a 1 1 1 1;mark m 1 above 1 1 1;pair p a m spare;"));
        check.due("3: one that is not spare", 3,
                () -> Check.load(marks, "base a 1 1 1 1;mark m 1 above 1 1 1;pair p a m;line p;"));
        check.due("6: sign(2, 5)", 0, () -> marks.sign(2, 5));
        check.due("3: a hand that there is not", -12, () -> Check.load(marks, "line;line;hand 2;"));
        check.due("3: no hand", 0, () -> Check.load(marks, "line;line;"));
        check.due("5: size(6)", 0, () -> marks.size(6));
    }

    private void otherLines() {
        MarkStacks marks = Check.loaded(Texts.SIGNS + "line ac a ac;line a e a;line a;line e ce a do;");
        check.due("45: of the line 0", 1, () -> Check.query(marks, "first cluster = 1"));
        marks.hand(1);
        check.due("45: of the line 1", 0, () -> Check.query(marks, "first cluster = 0"));
        check.due("45: of the line 1", 2, () -> Check.query(marks, "first cluster = 2"));
        marks.hand(2);
        check.due("45: of the line 2", 1, () -> Check.query(marks, "many cluster = 0"));
        check.due("24: match(1, 2, true, 0)", 0, () -> marks.match(1, 2, true, 0));
        check.due("24: match(0, 2, true, 0)", 1, () -> marks.match(0, 2, true, 0));
        check.due("24: match(3, 2, true, 0)", 1, () -> marks.match(3, 2, true, 0));
        check.due("24: match(3, 2, false, 0)", Check.NO_ELEMENT, () -> marks.match(3, 2, false, 0));
        check.due("12: the foot of the line 3", -4, () -> marks.line(3, 7));
        check.due("12: the foot of the line 2", 0, () -> marks.line(2, 7));
        check.due("12: the crown of the line 2", 12, () -> marks.line(2, 6));
        check.due("12: the crown of the line 3", 16, () -> marks.line(3, 6));
    }

    private void markFirst() {
        MarkStacks marks = Check.loaded("mark m 9 above 2 2 0;mark n 3 below 2 2 0;base a 2 2 0 0;pair p a m;"
                + "pair q p n spare;line m n;line m m a m n m;line n a;line q m;");
        check.due("12: swaps ahead of the first base", 1, () -> marks.line(0, 3));
        check.due("12: swaps", 1, () -> marks.line(1, 3));
        check.due("12: none", 0, () -> marks.line(2, 3));
        check.due("26: bestClass(0, 0)", 1, () -> marks.bestClass(0, 0));
        check.due("26: bestClass(0, 1)", 10, () -> marks.bestClass(0, 1));
        check.due("26: bestClass(2, 1)", 1, () -> marks.bestClass(2, 1));
        check.due("16: no base", -1, () -> marks.cluster(0, 0, 0));
        check.due("16: no base", -1, () -> marks.cluster(2, 0, 0));
        check.due("16: a base", 2, () -> marks.cluster(2, 1, 0));
        check.due("16: the pen", 0, () -> marks.cluster(2, 1, 3));
        check.due("10: used(0)", 2, () -> marks.used(0));
        check.due("37: a class of another side", -2, () -> marks.setClass(1, 9));
        check.due("37: a class of another side", -2, () -> marks.setClass(0, 3));
        check.due("38: setSpare(4, false)", 1, () -> marks.setSpare(4, false));
        check.due("13: composed", 3, () -> marks.at(3, 2, 0));
        MarkStacks text = new MarkStacks();
        check.due("3: another side than the sign 0", -14,
                () -> Check.load(text, "mark m 9 above 2 2 0;mark n 9 below 2 2 0;line;"));
        check.due("4: its position", 30, text::errorPosition);
    }

    private void memories() {
        MarkStacks marks = Check.loaded("mark m 9 above 2 2 0;base a 2 2 0 0;pair p a m;pair q p m spare;line m;line;");
        marks.saveSnapshot();
        marks.setSpare(2, true);
        marks.setSpare(3, false);
        marks.setClass(0, 8);
        marks.saveSnapshot();
        marks.setClass(0, 7);
        marks.setSpare(3, true);
        marks.setSpare(2, false);
        marks.restoreSnapshot();
        check.due("44: the class of the sign 0", 8, () -> marks.sign(0, 1));
        check.due("44: spare", 1, () -> marks.sign(2, 5));
        check.due("44: not spare", 0, () -> marks.sign(3, 5));
        // The same memory of the ring is used again and again.
        for (int round = 0; round < 25; round++) {
            int before = round % 2;
            marks.setSpare(3, before == 0);
            marks.setClass(0, 10 + round);
            marks.hand(1 - before);
        }
        for (int left = 9; left > 6; left--) {
            marks.undo();
        }
        check.due("42: the class", 33, () -> marks.sign(0, 1));
        check.due("42: spare", 0, () -> marks.sign(3, 5));
        check.due("42: the hand", 0, () -> marks.size(6));
        marks.undo();
        check.due("42: the hand before", 1, () -> marks.size(6));
        marks.undo();
        check.due("42: the class before", 32, () -> marks.sign(0, 1));
        marks.undo();
        check.due("42: spare before", 1, () -> marks.sign(3, 5));
    }

    private void keywords() {
        String[] texts = {"fine;", "lime;", "lina;", "lin;", "lines;"};
        for (String text : texts) {
            check.due("3: " + text, -11, () -> Check.load(new MarkStacks(), text));
        }
        String[] sides = {"bbove", "abovf", "abov", "aboves", "telow", "shrough"};
        for (String side : sides) {
            check.due("3: " + side, -11, () -> Check.load(new MarkStacks(), "mark m 1 " + side + " 1 1 1;line m;"));
        }
        String[] queries = {"pany 1 = 1", "many slace = 1", "many pot 1 = 1", "many 1 = 1 fr 1 = 1", "many 1 = 1 bnd 1 = 1"};
        MarkStacks marks = Texts.usual();
        for (String query : queries) {
            check.due("45: " + query, -1000000001, () -> Check.query(marks, query));
        }
    }
}
