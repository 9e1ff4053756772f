/** Promises 12 to 17 and 19: forms, clusters and boxes of lines. */
public final class LinesTest {
    private final Check check = new Check("LinesTest");

    public static void main(String[] args) {
        LinesTest test = new LinesTest();
        test.numbers();
        test.forms();
        test.composing();
        test.differences();
        test.clustersOfPlaces();
        test.clusters();
        test.boxes();
        test.clashes();
        test.check.end();
    }

    private void numbers() {
        MarkStacks marks = Texts.usual();
        // Of the line 0: a ce do ac, e, e ce. Of the line 3: ac, a ac, a st ce ac.
        long[][] due = {
            {6, 7, 6, 1, 3, 26, 19, -4, 0}, {3, 3, 2, 0, 1, 8, 11, -4, 0}, {0, 0, 0, 0, 0, 0, 0, 0, 0},
            {4, 7, 5, 3, 3, 20, 15, -4, 0},
        };
        for (int line = 0; line < due.length; line++) {
            for (int what = 0; what < 9; what++) {
                int told = line;
                int asked = what;
                check.due("12: line(" + line + ", " + what + ")", due[line][what], () -> marks.line(told, asked));
            }
        }
        check.due("12: line(4, 0)", Check.NO_ELEMENT, () -> marks.line(4, 0));
        check.due("12: line(-1, 0)", Check.NO_ELEMENT, () -> marks.line(-1, 0));
        check.due("12: line(0, 9)", Check.NO_ELEMENT, () -> marks.line(0, 9));
        check.due("12: line(0, -1)", Check.NO_ELEMENT, () -> marks.line(0, -1));
        MarkStacks full = Check.loaded("base a 20 20 1 1;mark m 9 above 1 9 1;pair b a m;pair c b m;pair d c m;"
                + "pair e d m;pair f e m;line" + Texts.times(60, " f") + ";");
        check.due("12: the longest form", 360, () -> full.line(0, 1));
        check.due("12: composed", 60, () -> full.line(0, 2));
        check.due("12: sixty clusters", 60, () -> full.line(0, 4));
        check.due("12: the sum of the widths", 1200, () -> full.line(0, 5));
        check.due("12: the crown", 70, () -> full.line(0, 6));
        check.due("13: the last sign", 1, () -> full.at(0, 1, 359));
        check.due("13: behind it", Check.NO_ELEMENT, () -> full.at(0, 1, 360));
        MarkStacks low = Check.loaded("mark m 9 through 1 9 1;line m;line m m;");
        check.due("12: a cluster without a base", 9, () -> low.line(0, 6));
        check.due("12: its foot", 0, () -> low.line(0, 7));
        check.due("12: no widths", 0, () -> low.line(1, 5));
    }

    private void row(MarkStacks marks, int line, int form, String due) {
        check.dueText("13: the form " + form + " of the line " + line, due, Check.written(marks, line, form));
        String[] names = due.isEmpty() ? new String[0] : due.split(" ");
        for (int place = 0; place <= names.length; place++) {
            int asked = place;
            check.due("13: a sign at " + place, place < names.length ? signOf(marks, names[place]) : Check.NO_ELEMENT,
                    () -> marks.at(line, form, asked));
        }
        check.due("13: a sign at -1", Check.NO_ELEMENT, () -> marks.at(line, form, -1));
    }

    private static int signOf(MarkStacks marks, String written) {
        String name = written.startsWith("+") || written.startsWith("*") ? written.substring(1) : written;
        for (int sign = 0; sign < marks.size(0); sign++) {
            StringBuilder letters = new StringBuilder();
            for (int i = 0; marks.letter(sign, i) != -1; i++) {
                letters.append((char) marks.letter(sign, i));
            }
            if (letters.toString().equals(name)) {
                return sign;
            }
        }
        return -5;
    }

    private void forms() {
        MarkStacks marks = Texts.usual();
        row(Texts.usual(), 0, 0, "a +do +ce +ac e *ec");
        row(Texts.usual(), 0, 1, "a +ce +do +ac e e +ce");
        row(Texts.usual(), 0, 2, "a +ce +do +ac e *ec");
        row(Texts.usual(), 1, 1, "e +st +ce");
        row(Texts.usual(), 1, 2, "*ec +st");
        row(Texts.usual(), 2, 0, "");
        row(Texts.usual(), 2, 1, "");
        row(Texts.usual(), 2, 2, "");
        row(Texts.usual(), 3, 0, "+ac *aa *ab +st");
        row(Texts.usual(), 3, 1, "+ac a +ac a +st +ce +ac");
        row(Texts.usual(), 3, 2, "+ac *aa *aa +st +ce");
        check.due("13: at(0, 3, 0)", Check.NO_ELEMENT, () -> marks.at(0, 3, 0));
        check.due("13: at(0, -1, 0)", Check.NO_ELEMENT, () -> marks.at(0, -1, 0));
        check.due("13: at(4, 0, 0)", Check.NO_ELEMENT, () -> marks.at(4, 0, 0));
        check.due("13: at(-1, 0, 0)", Check.NO_ELEMENT, () -> marks.at(-1, 0, 0));
    }

    private void composing() {
        // A mark ahead of every base is not taken up; a mark of the same class bars those behind it.
        row(Texts.with("ac a ac"), 0, 2, "+ac *aa");
        row(Texts.with("a do ac"), 0, 2, "a +do +ac");
        row(Texts.with("a ac do ac"), 0, 2, "*aa +do +ac");
        row(Texts.with("a ac ac"), 0, 2, "*aa +ac");
        // Marks of other classes bar nothing, and a new base begins anew.
        row(Texts.with("a st ce ac a ac"), 0, 2, "*aa +st +ce *aa");
        // What was taken up does not bar marks of its class.
        MarkStacks marks = Check.loaded("base a 1 1 1 1;mark m 1 above 1 1 1;pair b a m;pair c b m;pair d c m spare;"
                + "line a m m m m;line d;line b m;");
        row(marks, 0, 2, "*c +m +m");
        row(marks, 1, 1, "a +m +m +m");
        row(marks, 1, 2, "*c +m");
        row(marks, 2, 2, "*c");
        marks.setSpare(2, true);
        row(marks, 0, 2, "a +m +m +m +m");
        row(marks, 2, 2, "a +m +m");
    }

    private void differences() {
        MarkStacks marks = Texts.usual();
        check.due("14: unlike(0, 1)", 1, () -> marks.unlike(0, 1));
        check.due("14: unlike(0, 2)", 1, () -> marks.unlike(0, 2));
        check.due("14: unlike(1, 1)", -1, () -> marks.unlike(1, 1));
        check.due("14: unlike(1, 2)", 0, () -> marks.unlike(1, 2));
        check.due("14: of a line without signs", -1, () -> marks.unlike(2, 1));
        check.due("14: unlike(3, 1)", 1, () -> marks.unlike(3, 1));
        check.due("14: unlike(3, 2)", 2, () -> marks.unlike(3, 2));
        check.due("14: unlike(0, 0)", Check.NO_ELEMENT, () -> marks.unlike(0, 0));
        check.due("14: unlike(0, 3)", Check.NO_ELEMENT, () -> marks.unlike(0, 3));
        check.due("14: unlike(4, 1)", Check.NO_ELEMENT, () -> marks.unlike(4, 1));
        check.due("14: unlike(-1, 1)", Check.NO_ELEMENT, () -> marks.unlike(-1, 1));
        MarkStacks ends = Check.loaded("base a 1 1 1 1;mark m 1 above 1 1 1;mark n 1 above 1 1 1;pair b a m;"
                + "pair c a n spare;line a n m;line c m;");
        check.due("14: the same", -1, () -> ends.unlike(0, 2));
        check.due("14: another sign first", 0, () -> ends.unlike(1, 1));
        MarkStacks later = Check.loaded("mark m 1 above 1 1 1;base a 1 1 1 1;pair b a m;line b a m;");
        check.due("14: the second place", 1, () -> later.unlike(0, 2));
        check.due("14: the first place", 0, () -> later.unlike(0, 1));
    }

    private void clustersOfPlaces() {
        MarkStacks marks = Texts.usual();
        long[] first = {0, 0, 0, 0, 1, 2};
        for (int place = 0; place < 6; place++) {
            int asked = place;
            check.due("15: clusterOf(0, " + place + ")", first[place], () -> marks.clusterOf(0, asked));
        }
        long[] headless = {0, 1, 2, 2};
        for (int place = 0; place < 4; place++) {
            int asked = place;
            check.due("15: clusterOf(3, " + place + ")", headless[place], () -> marks.clusterOf(3, asked));
        }
        check.due("15: clusterOf(0, 6)", Check.NO_ELEMENT, () -> marks.clusterOf(0, 6));
        check.due("15: clusterOf(0, -1)", Check.NO_ELEMENT, () -> marks.clusterOf(0, -1));
        check.due("15: clusterOf(2, 0)", Check.NO_ELEMENT, () -> marks.clusterOf(2, 0));
        check.due("15: clusterOf(4, 0)", Check.NO_ELEMENT, () -> marks.clusterOf(4, 0));
    }

    private void clusters() {
        MarkStacks marks = Texts.usual();
        // ac on no base: left -2 to 2, lower 1, upper 3. a st ce ac: st from 2 to 8 at 6, ce 3 to 6, ac 3 to 7.
        long[][] due = {
            {-1, 1, 0, 0, -2, 2, 3, 0, 1}, {0, 1, 1, 0, 0, 10, 15, 0, 1}, {0, 3, 3, 10, 0, 10, 15, -4, 3},
        };
        for (int cluster = 0; cluster < 3; cluster++) {
            for (int what = 0; what < 9; what++) {
                int told = cluster;
                int asked = what;
                check.due("16: cluster(3, " + cluster + ", " + what + ")", due[cluster][what],
                        () -> marks.cluster(3, told, asked));
            }
        }
        check.due("16: the pen of the last cluster", 18, () -> marks.cluster(0, 2, 3));
        check.due("16: a barred mark comes from it, too", 4, () -> marks.cluster(0, 0, 8));
        check.due("16: cluster(3, 3, 0)", Check.NO_ELEMENT, () -> marks.cluster(3, 3, 0));
        check.due("16: cluster(3, -1, 0)", Check.NO_ELEMENT, () -> marks.cluster(3, -1, 0));
        check.due("16: cluster(2, 0, 0)", Check.NO_ELEMENT, () -> marks.cluster(2, 0, 0));
        check.due("16: cluster(4, 0, 0)", Check.NO_ELEMENT, () -> marks.cluster(4, 0, 0));
        check.due("16: cluster(3, 0, 9)", Check.NO_ELEMENT, () -> marks.cluster(3, 0, 9));
        check.due("16: cluster(3, 0, -1)", Check.NO_ELEMENT, () -> marks.cluster(3, 0, -1));
        // A mark through a low base reaches beyond its top; wide marks reach beyond its sides.
        MarkStacks low = Check.loaded("base i 1 3 20 0;mark t 1 through 9 9 9;mark u 2 above 9 1 0;"
                + "mark v 3 below 9 2 9;line i t;line i u v;");
        long[] through = {0, 1, 0, 0, -9, 1, 10, 0, 2};
        long[] both = {0, 2, 0, 0, -9, 29, 5, -3, 3};
        for (int what = 0; what < 9; what++) {
            int asked = what;
            check.due("16: cluster(0, 0, " + what + ") of i t", through[what], () -> low.cluster(0, 0, asked));
            check.due("16: cluster(1, 0, " + what + ") of i u v", both[what], () -> low.cluster(1, 0, asked));
        }
    }

    private void box(MarkStacks marks, int cluster, int mark, long... due) {
        for (int what = 0; what < 5; what++) {
            int asked = what;
            check.due("17: box(0, " + cluster + ", " + mark + ", " + what + ")", due[what],
                    () -> marks.box(0, cluster, mark, asked));
        }
    }

    private void boxes() {
        MarkStacks marks = Texts.with("ac ce st do e do ce st ac ce do st");
        // Without a base all anchors are 0: st, ce, ac, do.
        box(marks, 0, 0, 5, -3, 3, 0, 1);
        box(marks, 0, 1, 4, -1, 2, -4, -1);
        box(marks, 0, 2, 2, -2, 2, 1, 3);
        box(marks, 0, 3, 3, -1, 1, 4, 7);
        // On e (8 by 11, anchors 4 and 3): st, st, ce, ce, do, ac, do.
        box(marks, 1, 0, 5, 1, 7, 5, 6);
        box(marks, 1, 1, 5, 1, 7, 5, 6);
        box(marks, 1, 2, 4, 2, 5, -4, -1);
        box(marks, 1, 3, 4, 2, 5, -8, -5);
        box(marks, 1, 4, 3, 3, 5, 12, 15);
        box(marks, 1, 5, 2, 2, 6, 16, 18);
        box(marks, 1, 6, 3, 3, 5, 19, 22);
        check.due("17: box(0, 1, 7, 0)", Check.NO_ELEMENT, () -> marks.box(0, 1, 7, 0));
        check.due("17: box(0, 1, -1, 0)", Check.NO_ELEMENT, () -> marks.box(0, 1, -1, 0));
        check.due("17: box(0, 2, 0, 0)", Check.NO_ELEMENT, () -> marks.box(0, 2, 0, 0));
        check.due("17: box(0, -1, 0, 0)", Check.NO_ELEMENT, () -> marks.box(0, -1, 0, 0));
        check.due("17: box(1, 0, 0, 0)", Check.NO_ELEMENT, () -> marks.box(1, 0, 0, 0));
        check.due("17: box(0, 0, 0, 5)", Check.NO_ELEMENT, () -> marks.box(0, 0, 0, 5));
        check.due("17: box(0, 0, 0, -1)", Check.NO_ELEMENT, () -> marks.box(0, 0, 0, -1));
        // The most marks that one cluster can have: five of a composed sign and 59 behind it.
        MarkStacks most = Check.loaded("base a 1 1 0 0;mark m 1 above 1 1 0;pair b a m;pair c b m;pair d c m;"
                + "pair e d m;pair f e m;line f" + Texts.times(59, " m") + ";");
        check.due("17: the 64th mark", 129, () -> most.box(0, 0, 63, 4));
        check.due("17: the 65th mark", Check.NO_ELEMENT, () -> most.box(0, 0, 64, 4));
    }

    /** Whether marks of i and of the next i overlap, of which the second one is moved by the width of i. */
    private void clash(String line, int due) {
        MarkStacks marks = Check.loaded("base i 4 5 2 2;base j 4 1 2 2;mark z 9 above 5 4 2;mark k 10 above 5 2 9;mark u 1 above 4 2 2;mark w 2 above 5 2 2;mark t 3 through 6 9 3;"
                + "mark b 4 below 4 1 2;mark c 5 below 5 1 3;mark v 6 above 4 2 0;mark x 7 above 2 2 0;"
                + "mark y 8 above 2 2 1;line " + line + ";");
        check.due("19: clashes(0, 0) of " + line, due, () -> Check.bit(marks.clashes(0, 0)));
        check.due("12: the clashes of " + line, due, () -> marks.line(0, 8));
    }

    private void clashes() {
        clash("i u i u", 0);
        clash("i w i u", 1);
        clash("i u i w", 0);
        clash("i w i w", 1);
        clash("i w i", 0);
        clash("i i w", 0);
        clash("i b i b", 0);
        clash("i b i c", 1);
        clash("i c i b", 0);
        clash("i w i c", 0);
        clash("i u i u w", 0);
        clash("i u w i u", 0);
        clash("i u w i u u", 1);
        clash("w i u", 0);
        // v ends where x begins, y begins one place ahead; the upper edge of z is the lower one of w.
        clash("i v i x", 0);
        clash("i v i y", 1);
        // k stands so far ahead of its base that it ends where v begins.
        clash("i v i k", 0);
        clash("i y i k", 1);
        clash("i w j z", 0);
        clash("i w j z z", 1);
        clash("w w i w", 0);
        clash("w w w i w", 1);
        clash("t i t", 1);
        clash("t i u", 1);
        clash("b i b", 1);
        clash("b i u", 0);
        MarkStacks marks = Check.loaded("base i 4 5 2 2;mark w 2 above 5 2 2;line i w i w i i w i w i w;line i;line;");
        long[] due = {1, 0, 0, 1, 1};
        for (int cluster = 0; cluster < 5; cluster++) {
            int asked = cluster;
            check.due("19: clashes(0, " + cluster + ")", due[cluster], () -> Check.bit(marks.clashes(0, asked)));
        }
        check.due("12: three pairs clash", 3, () -> marks.line(0, 8));
        check.due("19: the last one", Check.NO_ELEMENT, () -> Check.bit(marks.clashes(0, 5)));
        check.due("19: clashes(0, 6)", Check.NO_ELEMENT, () -> Check.bit(marks.clashes(0, 6)));
        check.due("19: clashes(0, -1)", Check.NO_ELEMENT, () -> Check.bit(marks.clashes(0, -1)));
        check.due("19: a cluster alone", Check.NO_ELEMENT, () -> Check.bit(marks.clashes(1, 0)));
        check.due("19: no cluster", Check.NO_ELEMENT, () -> Check.bit(marks.clashes(2, 0)));
        check.due("19: no line", Check.NO_ELEMENT, () -> Check.bit(marks.clashes(3, 0)));
    }
}
