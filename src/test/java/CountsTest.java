/** Promises 18 and 20 to 28: spellings, comparisons, matches and what else is counted of lines. */
public final class CountsTest {
    private final Check check = new Check("CountsTest");

    public static void main(String[] args) {
        CountsTest test = new CountsTest();
        test.spellings();
        test.fullest();
        test.comparing();
        test.bareForms();
        test.matching();
        test.saving();
        test.classes();
        test.means();
        test.check.end();
    }

    private void spelled(String line, int cluster, long due) {
        MarkStacks marks = Texts.with(line);
        check.due("18: spellings(0, " + cluster + ") of " + line, due, () -> marks.spellings(0, cluster));
    }

    private void spellings() {
        spelled("a", 0, 1);
        spelled("a ac", 0, 1);
        spelled("a ac ce", 0, 2);
        spelled("a ac do ac", 0, 1);
        spelled("a do ce ac", 0, 3);
        spelled("a st ce ac", 0, 6);
        spelled("a st ce ac do ce", 0, 30);
        spelled("ab st", 0, 6);
        spelled("st ce ac a", 0, 6);
        spelled("st ce ac a", 1, 1);
        spelled("a" + Texts.times(18, " ac"), 0, 1);
        spelled("a" + Texts.times(19, " ac"), 0, -2);
        spelled("a" + Texts.times(6, " ac") + Texts.times(6, " ce") + Texts.times(6, " st"), 0, 17153136);
        StringBuilder text = new StringBuilder("base q 1 1 1 1;");
        StringBuilder line = new StringBuilder("line q");
        for (int i = 0; i < 18; i++) {
            char name = (char) ('a' + i % 16);
            String letters = i < 16 ? "" + name : "z" + name;
            text.append("mark ").append(letters).append(' ').append(1 + i).append(" above 1 1 1;");
            line.append(' ').append(letters);
        }
        MarkStacks marks = Check.loaded(text.toString() + line + ";");
        check.due("18: of 18 marks of unlike classes", 6402373705728000L, () -> marks.spellings(0, 0));
        check.due("18: no such cluster", Check.NO_ELEMENT, () -> marks.spellings(0, 1));
        check.due("18: no such cluster", Check.NO_ELEMENT, () -> marks.spellings(0, -1));
        check.due("18: no such line", Check.NO_ELEMENT, () -> marks.spellings(1, 0));
    }

    private void fullest() {
        MarkStacks marks = Texts.usual();
        check.due("20: fullest(0)", 0, () -> marks.fullest(0));
        check.due("20: fullest(1)", 0, () -> marks.fullest(1));
        check.due("20: without clusters", -1, () -> marks.fullest(2));
        check.due("20: fullest(3)", 2, () -> marks.fullest(3));
        check.due("20: of several the first", 1, () -> Texts.with("a ac e do ce aa st").fullest(0));
        check.due("20: without marks", 0, () -> Texts.with("a e").fullest(0));
        check.due("20: fullest(4)", Check.NO_ELEMENT, () -> marks.fullest(4));
        check.due("20: fullest(-1)", Check.NO_ELEMENT, () -> marks.fullest(-1));
    }

    private void comparing() {
        MarkStacks marks = Check.loaded(Texts.SIGNS + "line a ac ce;line ab;line a ce;line a ce ac a;");
        check.due("21: the same form", 0, () -> marks.compare(0, 1));
        check.due("21: the beginning of the other one", -1, () -> marks.compare(2, 0));
        check.due("21: the other one its beginning", 1, () -> marks.compare(0, 2));
        check.due("21: compare(1, 3)", -1, () -> marks.compare(1, 3));
        check.due("21: compare(3, 1)", 1, () -> marks.compare(3, 1));
        check.due("21: with itself", 0, () -> marks.compare(3, 3));
        check.due("21: compare(4, 0)", Check.NO_ELEMENT, () -> marks.compare(4, 0));
        check.due("21: compare(0, 4)", Check.NO_ELEMENT, () -> marks.compare(0, 4));
        check.due("21: compare(-1, 0)", Check.NO_ELEMENT, () -> marks.compare(-1, 0));
        MarkStacks other = Check.loaded(Texts.SIGNS + "line a e;line e;line;line a ac do;");
        check.due("21: by the numbers", -1, () -> other.compare(0, 1));
        check.due("21: by the first unlike number", -1, () -> other.compare(0, 3));
        check.due("21: no signs are ahead of all", -1, () -> other.compare(2, 0));
        check.due("21: all are behind no signs", 1, () -> other.compare(0, 2));
    }

    private void bareForms() {
        MarkStacks marks = Check.loaded(Texts.SIGNS + "line ab ec;line a e st;line st a e;line ac aa e;");
        check.due("22: areBare(0, 1)", 1, () -> Check.bit(marks.areBare(0, 1)));
        check.due("22: areBare(1, 2)", 0, () -> Check.bit(marks.areBare(1, 2)));
        check.due("22: areBare(2, 3)", 1, () -> Check.bit(marks.areBare(2, 3)));
        check.due("22: areBare(3, 3)", 1, () -> Check.bit(marks.areBare(3, 3)));
        check.due("22: areBare(0, 4)", Check.NO_ELEMENT, () -> Check.bit(marks.areBare(0, 4)));
        check.due("22: areBare(4, 0)", Check.NO_ELEMENT, () -> Check.bit(marks.areBare(4, 0)));
        MarkStacks other = Check.loaded(Texts.SIGNS + "line a e;line a;line;line a a;");
        check.due("22: the beginning of the other one", 0, () -> Check.bit(other.areBare(1, 0)));
        check.due("22: the other one its beginning", 0, () -> Check.bit(other.areBare(0, 1)));
        check.due("22: without signs", 0, () -> Check.bit(other.areBare(2, 1)));
        check.due("22: without signs, both", 1, () -> Check.bit(other.areBare(2, 2)));
        check.due("22: another base", 0, () -> Check.bit(other.areBare(0, 3)));
    }

    private void found(MarkStacks marks, int line, int pattern, boolean bare, long... due) {
        String call = "(" + line + ", " + pattern + ", " + bare + ")";
        check.due("23: matches" + call, due.length, () -> marks.matches(line, pattern, bare));
        for (int i = 0; i <= due.length; i++) {
            int asked = i;
            check.due("24: match" + call + " " + i, i < due.length ? due[i] : Check.NO_ELEMENT,
                    () -> marks.match(line, pattern, bare, asked));
        }
        check.due("24: match" + call + " -1", Check.NO_ELEMENT, () -> marks.match(line, pattern, bare, -1));
    }

    private void matching() {
        // The clusters of the line 0: ac, a ac, a, a ac ce, a.
        MarkStacks marks = Check.loaded(Texts.SIGNS + "line ac aa a a ac ce a;line a aa;line do a;line;");
        found(marks, 0, 0, false, 0);
        found(marks, 0, 1, true, 1, 2, 3);
        found(marks, 0, 1, false);
        found(marks, 0, 2, true, 0);
        found(marks, 0, 2, false);
        found(marks, 1, 0, true);
        found(marks, 3, 1, true);
        for (boolean bare : new boolean[] {false, true}) {
            check.due("23: a pattern without signs", Check.NO_ELEMENT, () -> marks.matches(0, 3, bare));
            check.due("24: a pattern without signs", Check.NO_ELEMENT, () -> marks.match(0, 3, bare, 0));
            check.due("23: no such line", Check.NO_ELEMENT, () -> marks.matches(4, 0, bare));
            check.due("23: no such pattern", Check.NO_ELEMENT, () -> marks.matches(0, 4, bare));
            check.due("24: no such line", Check.NO_ELEMENT, () -> marks.match(-1, 0, bare, 0));
            check.due("24: no such pattern", Check.NO_ELEMENT, () -> marks.match(0, -1, bare, 0));
        }
        // Marks in another order are the same; more marks, fewer marks and other marks are not.
        MarkStacks other = Check.loaded(Texts.SIGNS + "line a ce ac aa ab a do ce a ac ce ac;line a ac ce;line a;line ce ac;");
        found(other, 0, 1, false, 0, 2);
        found(other, 0, 1, true, 0, 1, 2, 3, 4);
        found(other, 0, 2, false);
        found(other, 0, 3, true);
    }

    private void saving() {
        MarkStacks marks = Check.loaded(Texts.SIGNS + "line ab a ac ce a ce;line;");
        check.due("25: a spare one that marks put in order never make", 0, () -> marks.saved(0, 7));
        MarkStacks shorter = Check.loaded("base a 1 1 1 1;mark m 1 above 1 1 1;mark n 2 above 1 1 1;"
                + "pair x a m;pair y x n spare;line y a n m a n;");
        check.due("25: a spare one", 2, () -> shorter.saved(0, 4));
        check.due("25: it is not spare any more", 0, () -> {
            shorter.setSpare(4, false);
            return shorter.saved(0, 4);
        });
        check.due("25: one that is not spare", 0, () -> marks.saved(0, 6));
        check.due("25: in a line without signs", 0, () -> marks.saved(1, 7));
        check.due("25: a base", Check.NO_ELEMENT, () -> marks.saved(0, 0));
        check.due("25: a mark", Check.NO_ELEMENT, () -> marks.saved(0, 2));
        check.due("25: saved(0, 9)", Check.NO_ELEMENT, () -> marks.saved(0, 9));
        check.due("25: saved(0, -1)", Check.NO_ELEMENT, () -> marks.saved(0, -1));
        check.due("25: saved(2, 7)", Check.NO_ELEMENT, () -> marks.saved(2, 7));
        check.due("25: it is spare yet", 1, () -> marks.sign(7, 5));
        // Without p, q and r take up both n; with it, no sign begins with p.
        MarkStacks longer = Check.loaded("base a 1 1 1 1;mark m 1 above 1 1 1;mark n 2 above 1 1 1;"
                + "pair p a m spare;pair q a n;pair r q n;line a m n n;");
        check.due("25: it would be longer", -1, () -> longer.saved(0, 3));
    }

    private void best(String text, int mark, long due) {
        MarkStacks marks = Check.loaded("base a 1 1 1 1;mark m 30 above 1 1 1;mark n 20 above 1 1 1;"
                + "mark o 10 below 1 1 1;mark p 1 below 1 1 1;" + text);
        check.due("26: bestClass(0, " + mark + ") of " + text, due, () -> marks.bestClass(0, mark));
    }

    private void classes() {
        // The class 1 is below, so it is not for marks above.
        best("line a m n;", 1, 2);
        best("line a n m;", 1, 20);
        best("line a n m;", 2, 2);
        best("line a o n m;", 2, 11);
        best("line a o n m o;", 2, 2);
        best("line a m n o;", 1, 2);
        best("line a o m;", 1, 11);
        best("line a o m o;", 1, 2);
        best("line a m o m o m o n;", 1, 2);
        best("line a p o p;", 4, 10);
        best("line a o p;", 4, 10);
        best("line;", 1, 2);
        best("line;", 3, 1);
        best("line a;", 4, 1);
        MarkStacks marks = Texts.usual();
        check.due("26: bestClass(0, 3)", 6, () -> Texts.with("a ce do").bestClass(0, 3));
        check.due("26: a base", Check.NO_ELEMENT, () -> marks.bestClass(0, 0));
        check.due("26: a composed sign", Check.NO_ELEMENT, () -> marks.bestClass(0, 6));
        check.due("26: bestClass(0, 9)", Check.NO_ELEMENT, () -> marks.bestClass(0, 9));
        check.due("26: bestClass(0, -1)", Check.NO_ELEMENT, () -> marks.bestClass(0, -1));
        check.due("26: bestClass(4, 2)", Check.NO_ELEMENT, () -> marks.bestClass(4, 2));
        check.due("26: the class stays", 10, () -> marks.sign(2, 1));
        // Behind a mark of the class 60, the class 60 alone makes no swap.
        MarkStacks last = Check.loaded("base a 1 1 1 1;mark m 60 above 1 1 1;mark n 3 above 1 1 1;line a m n;");
        check.due("26: the last class", 60, () -> last.bestClass(0, 2));
        MarkStacks barred = Check.loaded("base a 1 1 1 1;mark m 60 above 1 1 1;mark n 3 below 1 1 1;line a m n;");
        check.due("26: the last class has another side", 1, () -> barred.bestClass(0, 2));
    }

    private void mean(String call, double due, double got) {
        check.due(call + " " + got, 1, () -> Check.bit(due == got));
    }

    private void means() {
        MarkStacks marks = Texts.usual();
        mean("27: meanMarks(0)", 4.0 / 3.0, marks.meanMarks(0));
        mean("27: meanMarks(1)", 2.0, marks.meanMarks(1));
        mean("27: without clusters", 0.0, marks.meanMarks(2));
        mean("27: meanMarks(3)", 5.0 / 3.0, marks.meanMarks(3));
        check.due("27: meanMarks(4)", Check.NO_ELEMENT, () -> (long) marks.meanMarks(4));
        check.due("27: meanMarks(-1)", Check.NO_ELEMENT, () -> (long) marks.meanMarks(-1));
        mean("28: shortness(0)", 6.0f / 7.0f, marks.shortness(0));
        mean("28: shortness(1)", 2.0f / 3.0f, marks.shortness(1));
        mean("28: without signs", 0.0f, marks.shortness(2));
        mean("28: shortness(3)", 5.0f / 7.0f, marks.shortness(3));
        check.due("28: shortness(4)", Check.NO_ELEMENT, () -> (long) marks.shortness(4));
        check.due("28: shortness(-1)", Check.NO_ELEMENT, () -> (long) marks.shortness(-1));
    }
}
