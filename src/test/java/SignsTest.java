/** Promises 5 to 11: what is told of signs. */
public final class SignsTest {
    private final Check check = new Check("SignsTest");

    public static void main(String[] args) {
        SignsTest test = new SignsTest();
        test.sizes();
        test.numbers();
        test.letters();
        test.expansions();
        test.pairs();
        test.uses();
        test.recomposing();
        test.check.end();
    }

    private void sizes() {
        MarkStacks marks = Texts.usual();
        long[] due = {9, 2, 4, 3, 1, 4, 1};
        for (int what = 0; what < due.length; what++) {
            int asked = what;
            check.due("5: size(" + what + ")", due[what], () -> marks.size(asked));
        }
        marks.setSpare(7, false);
        check.due("5: no spare ones", 0, () -> marks.size(4));
        check.due("5: size(7)", Check.NO_ELEMENT, () -> marks.size(7));
        check.due("5: size(-1)", Check.NO_ELEMENT, () -> marks.size(-1));
        check.due("5: size of the least number", Check.NO_ELEMENT, () -> marks.size(Integer.MIN_VALUE));
    }

    private void numbers() {
        MarkStacks marks = Texts.usual();
        long[][] due = {
            {0, 0, 1, 10, 12, 5, 4}, {0, 0, 1, 8, 11, 4, 3}, {1, 10, 1, 4, 2, 2, 0}, {1, 10, 1, 2, 3, 1, 0},
            {1, 5, 1, 3, 3, 1, 1}, {1, 1, 1, 6, 1, 3, 2}, {2, 0, 2, 0, 2, 0, 1}, {2, 0, 3, 6, 4, 1, 1},
            {2, 0, 2, 1, 4, 0, 1},
        };
        for (int sign = 0; sign < due.length; sign++) {
            for (int what = 0; what < 7; what++) {
                int told = sign;
                int asked = what;
                check.due("6: sign(" + sign + ", " + what + ")", due[sign][what], () -> marks.sign(told, asked));
            }
        }
        check.due("6: sign(9, 0)", Check.NO_ELEMENT, () -> marks.sign(9, 0));
        check.due("6: sign(-1, 0)", Check.NO_ELEMENT, () -> marks.sign(-1, 0));
        check.due("6: sign(0, 7)", Check.NO_ELEMENT, () -> marks.sign(0, 7));
        check.due("6: sign(0, -1)", Check.NO_ELEMENT, () -> marks.sign(0, -1));
        check.due("6: sign(6, 7)", Check.NO_ELEMENT, () -> marks.sign(6, 7));
        marks.type(0, 0, 6);
        marks.type(0, 0, 6);
        check.due("6: a line that has it twice counts once", 2, () -> marks.sign(6, 6));
        marks.type(2, 0, 0);
        marks.type(2, 1, 2);
        check.due("6: composed forms do not count", 2, () -> marks.sign(6, 6));
    }

    private void letters() {
        MarkStacks marks = Check.loaded("base z 1 1 1 1;base abcd 1 1 1 1;line;");
        check.due("7: letter(0, 0)", 'z', () -> marks.letter(0, 0));
        check.due("7: letter(0, 1)", -1, () -> marks.letter(0, 1));
        check.due("7: letter(0, 4)", -1, () -> marks.letter(0, 4));
        for (int i = 0; i < 4; i++) {
            int asked = i;
            check.due("7: letter(1, " + i + ")", 'a' + i, () -> marks.letter(1, asked));
        }
        check.due("7: letter(1, 4)", -1, () -> marks.letter(1, 4));
        check.due("7: letter(1, 5)", -1, () -> marks.letter(1, 5));
        check.due("7: the greatest number", -1, () -> marks.letter(1, Integer.MAX_VALUE));
        check.due("7: letter(1, -1)", Check.NO_ELEMENT, () -> marks.letter(1, -1));
        check.due("7: letter(2, 0)", Check.NO_ELEMENT, () -> marks.letter(2, 0));
        check.due("7: letter(-1, 0)", Check.NO_ELEMENT, () -> marks.letter(-1, 0));
    }

    private void expansions() {
        MarkStacks marks = Texts.usual();
        check.due("8: of a base", 1, () -> marks.expanded(1, 0));
        check.due("8: of a mark", 5, () -> marks.expanded(5, 0));
        check.due("8: behind a mark", Check.NO_ELEMENT, () -> marks.expanded(5, 1));
        long[] due = {0, 2, 4};
        for (int i = 0; i < 3; i++) {
            int asked = i;
            check.due("8: expanded(7, " + i + ")", due[i], () -> marks.expanded(7, asked));
        }
        check.due("8: expanded(7, 3)", Check.NO_ELEMENT, () -> marks.expanded(7, 3));
        check.due("8: expanded(7, -1)", Check.NO_ELEMENT, () -> marks.expanded(7, -1));
        check.due("8: expanded(9, 0)", Check.NO_ELEMENT, () -> marks.expanded(9, 0));
    }

    private void pairs() {
        MarkStacks marks = Texts.usual();
        check.due("9: pairOf(0, 2)", 6, () -> marks.pairOf(0, 2));
        check.due("9: a spare one", 7, () -> marks.pairOf(6, 4));
        check.due("9: pairOf(2, 0)", -1, () -> marks.pairOf(2, 0));
        check.due("9: pairOf(0, 4)", -1, () -> marks.pairOf(0, 4));
        check.due("9: pairOf(9, 2)", Check.NO_ELEMENT, () -> marks.pairOf(9, 2));
        check.due("9: pairOf(0, 9)", Check.NO_ELEMENT, () -> marks.pairOf(0, 9));
        check.due("9: bases have no parts", Check.NO_ELEMENT, () -> marks.pairOf(-1, -1));
    }

    private void uses() {
        MarkStacks marks = Texts.usual();
        long[] due = {2, 1, 2, 0, 2, 0, 0, 0, 0};
        for (int sign = 0; sign < due.length; sign++) {
            int asked = sign;
            check.due("10: used(" + sign + ")", due[sign], () -> marks.used(asked));
        }
        check.due("10: used(9)", Check.NO_ELEMENT, () -> marks.used(9));
        check.due("10: used(-1)", Check.NO_ELEMENT, () -> marks.used(-1));
    }

    private void recomposing() {
        MarkStacks marks = Texts.usual();
        long[] due = {0, 1, 2, 3, 4, 5, 6, 6, 8};
        for (int sign = 0; sign < due.length; sign++) {
            int asked = sign;
            check.due("11: recomposed(" + sign + ")", due[sign], () -> marks.recomposed(asked));
        }
        check.due("11: recomposed(9)", Check.NO_ELEMENT, () -> marks.recomposed(9));
        check.due("11: recomposed(-1)", Check.NO_ELEMENT, () -> marks.recomposed(-1));
        // The marks of y come in another order, so that another sign is made of them.
        MarkStacks other = Check.loaded("base a 9 9 1 1;mark m 20 above 1 1 1;mark n 10 below 1 1 1;"
                + "pair x a m;pair y x n;pair z a n;line y;");
        check.due("11: the marks are put in order first", 5, () -> other.recomposed(4));
        check.due("11: spare", 3, () -> {
            other.setSpare(5, true);
            return other.recomposed(4);
        });
        check.due("11: all are spare", 0, () -> {
            other.setSpare(3, true);
            return other.recomposed(4);
        });
    }
}
