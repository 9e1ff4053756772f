/** The sentences on lines: Lines and their forms, promises 12 to 15. */
final class LineSentences {
    private static final int[] NO_LINES = {-1, 4, 60, Integer.MIN_VALUE, Integer.MAX_VALUE};
    private static final int[] NO_NUMBERS = {-1, Integer.MIN_VALUE, Integer.MAX_VALUE};
    /** Marks of four classes: m and n of the class 2, o of the class 1, q of the class 60, t of the class 3. */
    private static final String MARKS = "base a 1 1 1 1;base e 1 1 1 1;mark m 2 above 1 1 1;mark n 2 above 1 1 1;"
            + "mark o 1 below 1 1 1;mark q 60 through 1 1 1;mark t 3 above 1 1 1;";

    private final Sentences s;
    private final MarkStacks usual = Texts.usual();

    private LineSentences(Sentences sentences) {
        s = sentences;
    }

    static void check(Sentences sentences) {
        LineSentences lines = new LineSentences(sentences);
        lines.most();
        lines.decomposed();
        lines.swaps();
        lines.composed();
        lines.takenUp();
        lines.equal();
        lines.clusters();
        lines.line();
        lines.lineWithoutClusters();
        lines.lineRefused();
        lines.at();
        lines.unlike();
        lines.clusterOf();
    }

    private static MarkStacks line(String line) {
        return Check.loaded(MARKS + "line " + line + ";");
    }

    private void most() {
        s.says("Lines and their forms", "There are 1 to 4 lines, numbered from 0, each a row of 0 to 60 signs;");
        MarkStacks marks = Check.loaded(MARKS + Texts.times(4, "line" + Texts.times(60, " a") + ";"));
        for (int line = 0; line < 4; line++) {
            int asked = line;
            s.due("the signs of the line " + line, 60, () -> marks.line(asked, 0));
            s.due("its last sign", 0, () -> marks.at(asked, 0, 59));
            s.due("type into it", -2, () -> marks.type(asked, 60, 0));
        }
        s.due("lines", 4, () -> marks.size(5));
        s.noElement("line(4, 0)", () -> marks.line(4, 0));
        s.due("load without a line", -11, () -> Check.load(marks, MARKS));
        s.due("load of five lines", -15, () -> Check.load(marks, "line;line;line;line;line;"));
        s.due("load of 61 signs", -15, () -> Check.load(marks, MARKS + "line" + Texts.times(61, " a") + ";"));
        s.due("one line without signs", 0, () -> Check.load(marks, "line;"));
        s.due("its signs", 0, () -> marks.line(0, 0));
        s.says("Lines and their forms", "their places are numbered from 0.");
        s.due("at(0, 0, 0)", 0, () -> usual.at(0, 0, 0));
        s.due("at(0, 0, 5)", 8, () -> usual.at(0, 0, 5));
        s.noElement("at(0, 0, 6)", () -> usual.at(0, 0, 6));
        s.says("Lines and their forms", "One line is at hand (the line 0 at first).");
        s.due("of a new object", 0, () -> new MarkStacks().size(6));
        s.due("behind a load", 0, () -> Check.loaded("line;line;line;").size(6));
        s.due("where the text tells it", 1, () -> usual.size(6));
    }

    private void decomposed() {
        s.says("Lines and their forms", "The decomposed form of a line: each sign is replaced by its expansion;");
        s.text("ab e ac", "a +ce +ac e +ac", Check.written(Texts.with("ab e ac"), 0, 1));
        s.says("Lines and their forms", "then, as long as there are two neighbours, both marks, of which the first one has "
                + "the greater class, these two are exchanged.");
        s.text("a greater class first", "a +o +m", Check.written(line("a m o"), 0, 1));
        s.text("by one", "a +m +t", Check.written(line("a t m"), 0, 1));
        s.text("the least first", "a +o +m", Check.written(line("a o m"), 0, 1));
        s.text("many", "a +o +o +m +n +t +q", Check.written(line("a q t m n o o"), 0, 1));
        s.text("a base between", "a +q e +o", Check.written(line("a q e o"), 0, 1));
        s.text("marks and a base behind", "+q a", Check.written(line("q a"), 0, 1));
        s.text("ahead of the first base", "+o +m a +o", Check.written(line("m o a o"), 0, 1));
        s.text("without a base", "+o +q", Check.written(line("q o"), 0, 1));
        s.text("nothing", "", Check.written(line(""), 0, 1));
        s.says("Lines and their forms", "(Marks of the same class keep their order.)");
        s.text("m n", "a +m +n", Check.written(line("a m n"), 0, 1));
        s.text("n m", "a +n +m", Check.written(line("a n m"), 0, 1));
        s.text("with a mark that goes ahead", "a +o +n +m +n", Check.written(line("a n m o n"), 0, 1));
    }

    private void swapped(String written, int due) {
        s.due("of " + written, due, () -> line(written).line(0, 3));
    }

    private void swaps() {
        s.says("Lines and their forms", "The swaps of a line are how many exchanges this takes.");
        swapped("", 0);
        swapped("a m", 0);
        swapped("a m n", 0);
        swapped("a o m t q", 0);
        swapped("a m o", 1);
        swapped("a q t m o", 6);
        swapped("a q m n o", 5);
        swapped("a m o a m o", 2);
        swapped("m o a", 1);
        swapped("q a o", 0);
        StringBuilder many = new StringBuilder();
        for (int i = 0; i < 30; i++) {
            many.append("q ");
        }
        swapped(many + Texts.times(30, "o "), 900);
        s.due("of marks with the number 0", 3, () -> Check.loaded("mark m 9 above 1 1 1;mark n 3 below 1 1 1;"
                + "base a 1 1 1 1;line m n m a m n n;").line(0, 3));
        s.due("of expansions", 2, () -> Texts.with("ab ac ce").line(0, 3) - Texts.with("ab").line(0, 3));
    }

    private void form(String written, String due) {
        s.text("of " + written, due, Check.written(Texts.with(written), 0, 2));
    }

    private void composed() {
        s.says("Lines and their forms", "The composed form of a line comes from its decomposed form.");
        form("a ac ce", "*aa +ce");
        form("e st ce", "*ec +st");
        form("", "");
        s.says("Lines and their forms", "It is gone through from the front.");
        MarkStacks marks = Check.loaded(MARKS + "pair x a o;pair y x m;pair z a m;line a m o;line a m;line a n m;");
        s.text("of a m o", "*y", Check.written(marks, 0, 2));
        s.text("of a m", "*z", Check.written(marks, 1, 2));
        s.says("Lines and their forms", "The starter is the latest base ahead, or what it became.");
        form("a ac a ac", "*aa *aa");
        form("a e ac", "a e +ac");
        s.text("what it became", "*y", Check.written(marks, 0, 2));
        s.says("Lines and their forms", "Other marks stay.");
        form("a do st ce", "a +st +ce +do");
        form("ac a do", "+ac a +do");
    }

    private void takenUp() {
        s.says("Lines and their forms", "A mark is taken up if there is a starter,");
        form("ac", "+ac");
        form("ac ac a", "+ac +ac a");
        s.says("Lines and their forms", "no mark of the same class stayed between the starter and this mark,");
        form("a do ac", "a +do +ac");
        form("a do ac ac", "a +do +ac +ac");
        form("a ac do", "*aa +do");
        form("a st ce ac", "*aa +st +ce");
        form("a do a ac", "a +do *aa");
        MarkStacks twice = Check.loaded(MARKS + "pair x a m;pair y x m;line a m m m;line a m n m;line a n m;");
        s.text("what is left out did not stay", "*y +m", Check.written(twice, 0, 2));
        s.text("what stayed bars it", "*x +n +m", Check.written(twice, 1, 2));
        s.text("what stayed bars it", "a +n +m", Check.written(twice, 2, 2));
        s.says("Lines and their forms", "and there is a composed sign that is not spare, whose first part is the starter "
                + "and whose second part is the mark:");
        form("aa ce", "*aa +ce");
        form("a ce", "a +ce");
        form("e ac", "e +ac");
        s.due("when it is not spare", 1, () -> {
            MarkStacks marks = Check.loaded(MARKS + "pair x a m spare;line a m;");
            marks.setSpare(7, false);
            return marks.line(0, 2);
        });
        s.says("Lines and their forms", "then this composed sign takes the place of the starter, and the mark is left out.");
        form("e a st ce ac e", "e *aa +st +ce e");
        form("a a ac a", "a *aa a");
    }

    private void equal() {
        s.says("Lines and their forms", "Two lines are equal if their decomposed forms are the same.");
        MarkStacks marks = Check.loaded(Texts.SIGNS + "line ab;line a ce ac;line a ac ce;line a ac do;");
        s.due("compare(0, 1)", 0, () -> marks.compare(0, 1));
        s.due("compare(1, 2)", 0, () -> marks.compare(1, 2));
        s.due("compare(2, 3)", 1, () -> marks.compare(2, 3));
    }

    private void clusters() {
        s.says("Lines and their forms", "The decomposed form falls into clusters, numbered from 0: each base begins one, "
                + "with all marks behind it up to the next base.");
        MarkStacks marks = Check.loaded(MARKS + "line a a m o e n;line m a;line m n o;line;");
        s.due("clusters", 3, () -> marks.line(0, 4));
        long[][] due = {{0, 0, 0}, {0, 2, 1}, {1, 1, 4}};
        for (int cluster = 0; cluster < 3; cluster++) {
            for (int what = 0; what < 3; what++) {
                int told = cluster;
                int asked = what;
                s.due("cluster(0, " + cluster + ", " + what + ")", due[cluster][what], () -> marks.cluster(0, told, asked));
            }
        }
        s.due("sixty bases", 60, () -> line(Texts.times(60, "a ")).line(0, 4));
        s.says("Lines and their forms", "Marks ahead of the first base are a cluster without a base (the cluster 0 then).");
        s.due("clusters of m a", 2, () -> marks.line(1, 4));
        s.due("its base", -1, () -> marks.cluster(1, 0, 0));
        s.due("its marks", 1, () -> marks.cluster(1, 0, 1));
        s.due("the base of the cluster 1", 0, () -> marks.cluster(1, 1, 0));
        s.due("clusters of marks alone", 1, () -> marks.line(2, 4));
        s.due("no base", -1, () -> marks.cluster(2, 0, 0));
        s.due("three marks", 3, () -> marks.cluster(2, 0, 1));
        s.due("clusters without signs", 0, () -> marks.line(3, 4));
        s.says("Lines and their forms", "The bare form of a line is the row of the bases of its clusters, where NONE stands "
                + "for a cluster without one.");
        MarkStacks bare = Check.loaded(MARKS + "line m a;line a;line o n a q;line e;");
        s.due("with and without one", 0, () -> Check.bit(bare.areBare(0, 1)));
        s.due("both with one", 1, () -> Check.bit(bare.areBare(0, 2)));
        s.due("unlike bases", 0, () -> Check.bit(bare.areBare(1, 3)));
    }

    private void line() {
        s.says("Promise 12", "Returns a number of a line.");
        s.due("line(1, 0)", 3, () -> usual.line(1, 0));
        s.says("Promise 12", "0 its signs, 1 signs of its decomposed form, 2 signs of its composed form, 3 its swaps, "
                + "4 its clusters, 5 the sum of the widths of the bases of its clusters, 6 the greatest crown, 7 the least "
                + "foot of its clusters");
        long[][] due = {{6, 7, 6, 1, 3, 26, 19, -4}, {3, 3, 2, 0, 1, 8, 11, -4}, {0, 0, 0, 0, 0, 0, 0, 0},
            {4, 7, 5, 3, 3, 20, 15, -4}};
        for (int line = 0; line < 4; line++) {
            for (int what = 0; what < 8; what++) {
                int told = line;
                int asked = what;
                s.due("line(" + line + ", " + what + ")", due[line][what], () -> usual.line(told, asked));
            }
        }
        MarkStacks full = Check.loaded("base a 20 20 1 1;mark m 9 above 1 9 1;pair b a m;pair c b m;pair d c m;"
                + "pair e d m;pair f e m;line" + Texts.times(60, " f") + ";");
        s.due("the longest decomposed form", 360, () -> full.line(0, 1));
        s.due("its composed form", 60, () -> full.line(0, 2));
        s.due("the widest line", 1200, () -> full.line(0, 5));
        full.setSpare(2, true);
        s.due("the longest composed form", 360, () -> full.line(0, 2));
        s.says("Promise 12", "8 how many pairs of clusters side by side clash");
        MarkStacks clash = Check.loaded("base i 4 5 2 2;mark w 2 above 5 2 2;mark v 3 above 9 2 2;"
                + "line i w i w i w i i w;line i w;line i v i i v;line;");
        s.due("three side by side", 2, () -> clash.line(0, 8));
        s.due("one cluster", 0, () -> clash.line(1, 8));
        s.due("one cluster that begins far ahead", 0, () -> Check.loaded("base i 1 1 1 1;mark t 3 through 9 9 5;"
                + "line i t;").line(0, 8));
        s.due("not side by side", 0, () -> clash.line(2, 8));
        s.due("no clusters", 0, () -> clash.line(3, 8));
    }

    private void lineWithoutClusters() {
        s.says("Promise 12", "(6, 7: 0 without clusters)");
        s.due("line(2, 6)", 0, () -> usual.line(2, 6));
        s.due("line(2, 7)", 0, () -> usual.line(2, 7));
        usual.line(0, 6);
        s.due("behind a line with clusters", 0, () -> usual.line(2, 6));
        usual.line(0, 7);
        s.due("behind a line with clusters", 0, () -> usual.line(2, 7));
        s.due("the crown of the lowest base", 1, () -> line("a").line(0, 6));
        s.due("its foot", 0, () -> line("a").line(0, 7));
        s.due("the crown of marks below alone", 0, () -> line("o").line(0, 6));
        s.due("their foot", -2, () -> line("o").line(0, 7));
    }

    private void lineRefused() {
        s.says("Promise 12", "if there is no such line or what is out of range");
        for (int line : NO_LINES) {
            s.noElement("line(" + line + ", 0)", () -> usual.line(line, 0));
        }
        s.noElement("line(0, 9)", () -> usual.line(0, 9));
        s.noElement("line(2, 9)", () -> usual.line(2, 9));
        for (int what : NO_NUMBERS) {
            s.noElement("line(0, " + what + ")", () -> usual.line(0, what));
        }
        s.noElement("the second line of one", () -> line("a").line(1, 0));
    }

    private void at() {
        s.says("Promise 13", "Returns the sign at a place of a line: as it is written (form 0), of its decomposed form (1) "
                + "or of its composed form (2).");
        long[][] due = {{2, 6, 7, 5}, {2, 0, 2, 0, 5, 4, 2}, {2, 6, 6, 5, 4}};
        for (int form = 0; form < 3; form++) {
            for (int place = 0; place < due[form].length; place++) {
                int told = form;
                int asked = place;
                s.due("at(3, " + form + ", " + place + ")", due[form][place], () -> usual.at(3, told, asked));
            }
        }
        s.says("Promise 13", "if there is no such line, form or place");
        for (int form = 0; form < 3; form++) {
            int told = form;
            s.noElement("the place behind the last one", () -> usual.at(3, told, due[told].length));
            s.noElement("a place of no signs", () -> usual.at(2, told, 0));
            for (int number : NO_NUMBERS) {
                s.noElement("the place " + number, () -> usual.at(3, told, number));
            }
            for (int line : NO_LINES) {
                s.noElement("the line " + line, () -> usual.at(line, told, 0));
            }
        }
        for (int form : new int[] {-1, 3, Integer.MIN_VALUE, Integer.MAX_VALUE}) {
            s.noElement("the form " + form, () -> usual.at(0, form, 0));
        }
        MarkStacks full = Check.loaded("base a 1 1 1 1;mark m 1 above 1 1 1;pair b a m;pair c b m;pair d c m;pair e d m;"
                + "pair f e m;line" + Texts.times(60, " f") + ";");
        s.due("the last place of the longest form", 1, () -> full.at(0, 1, 359));
        s.noElement("the place behind it", () -> full.at(0, 1, 360));
    }

    private void unlike() {
        MarkStacks marks = Check.loaded("mark m 2 above 1 1 1;mark n 3 above 1 1 1;base a 1 1 1 1;pair b a m;pair d b n;"
                + "line a n;line a m n;line n a m;line b;");
        s.says("Promise 14", "Returns the first place at which a line, as it is written, is not as its decomposed form (1) "
                + "or its composed form (2) has it");
        s.due("unlike(1, 2)", 0, () -> marks.unlike(1, 2));
        s.due("unlike(2, 2)", 1, () -> marks.unlike(2, 2));
        s.due("unlike(3, 1)", 0, () -> marks.unlike(3, 1));
        s.due("the last of its places", 3, () -> line("a o q m").unlike(0, 1) + 1);
        s.says("Promise 14", "(also where one of both has ended);");
        // All forms of a line have the same bases and marks in their expansions, so none is the beginning of
        // another one: where one of them has ended, an earlier place is unlike.
        MarkStacks ends = Check.loaded("base a 1 1 1 1;mark m 2 above 1 1 1;pair b a m;pair c b m;"
                + "line m b;line a m m;line a b m;line a a b;");
        s.due("the last place, its decomposed form is longer", 1, () -> ends.unlike(0, 1));
        s.due("its composed form has ended behind the place", 0, () -> ends.unlike(1, 2));
        s.due("its composed form has two signs of its three", 1, () -> ends.unlike(2, 2));
        s.due("the last place of three", 2, () -> ends.unlike(3, 1));
        s.says("Promise 14", "NONE if both are the same.");
        s.due("unlike(0, 1)", -1, () -> marks.unlike(0, 1));
        s.due("unlike(0, 2)", -1, () -> marks.unlike(0, 2));
        s.due("unlike(1, 1)", -1, () -> marks.unlike(1, 1));
        s.due("unlike(3, 2)", -1, () -> marks.unlike(3, 2));
        s.due("without signs", -1, () -> usual.unlike(2, 1));
        s.due("without signs", -1, () -> usual.unlike(2, 2));
        s.says("Promise 14", "if there is no such line, or form is neither 1 nor 2");
        for (int form : new int[] {-1, 0, 3, Integer.MIN_VALUE, Integer.MAX_VALUE}) {
            s.noElement("unlike(0, " + form + ")", () -> usual.unlike(0, form));
        }
        for (int line : NO_LINES) {
            s.noElement("unlike(" + line + ", 1)", () -> usual.unlike(line, 1));
        }
    }

    private void clusterOf() {
        s.says("Promise 15", "Returns the cluster in which the first sign of the expansion of the sign at a place is.");
        long[][] due = {{0, 0, 0, 0, 1, 2}, {0, 0, 0}, {}, {0, 1, 2, 2}};
        for (int line = 0; line < 4; line++) {
            for (int place = 0; place < due[line].length; place++) {
                int told = line;
                int asked = place;
                s.due("clusterOf(" + line + ", " + place + ")", due[line][place], () -> usual.clusterOf(told, asked));
            }
        }
        s.due("a mark that goes ahead of others", 1, () -> line("m a q o").clusterOf(0, 3));
        s.due("the last of sixty", 59, () -> line(Texts.times(60, "a ")).clusterOf(0, 59));
        s.due("a mark alone", 0, () -> line("m").clusterOf(0, 0));
        s.says("Promise 15", "if there is no such line or place");
        s.noElement("clusterOf(0, 6)", () -> usual.clusterOf(0, 6));
        s.noElement("clusterOf(2, 0)", () -> usual.clusterOf(2, 0));
        for (int place : NO_NUMBERS) {
            s.noElement("clusterOf(0, " + place + ")", () -> usual.clusterOf(0, place));
        }
        for (int line : NO_LINES) {
            s.noElement("clusterOf(" + line + ", 0)", () -> usual.clusterOf(line, 0));
        }
    }
}
