/** The sentences on clusters and their boxes: Boxes, promises 16, 17 and 19. */
final class BoxSentences {
    private static final int[] NO_LINES = {-1, 4, Integer.MIN_VALUE, Integer.MAX_VALUE};
    private static final int[] NO_NUMBERS = {-1, Integer.MIN_VALUE, Integer.MAX_VALUE};
    private static final int BASE = 0;
    private static final int MARKS = 1;
    private static final int START = 2;
    private static final int PEN = 3;
    private static final int LEFT = 4;
    private static final int RIGHT = 5;
    private static final int CROWN = 6;
    private static final int FOOT = 7;
    private static final int KEPT = 8;

    private final Sentences s;
    private final MarkStacks usual = Texts.usual();

    private BoxSentences(Sentences sentences) {
        s = sentences;
    }

    static void check(Sentences sentences) {
        BoxSentences boxes = new BoxSentences(sentences);
        boxes.base();
        boxes.marks();
        boxes.through();
        boxes.sides();
        boxes.crowns();
        boxes.pen();
        boxes.overlap();
        boxes.cluster();
        boxes.clusterRefused();
        boxes.box();
        boxes.boxRefused();
        boxes.clashes();
    }

    private void cluster(MarkStacks marks, int cluster, int what, long due) {
        s.due("cluster(0, " + cluster + ", " + what + ")", due, () -> marks.cluster(0, cluster, what));
    }

    private void box(MarkStacks marks, int cluster, int mark, long... due) {
        for (int what = 0; what < due.length; what++) {
            int asked = what;
            s.due("box(0, " + cluster + ", " + mark + ", " + what + ")", due[what],
                    () -> marks.box(0, cluster, mark, asked));
        }
    }

    private void base() {
        s.says("Boxes", "In a cluster the base takes the places from 0 to its width along the line, and 0 to its height "
                + "upward;");
        MarkStacks marks = Texts.with("a");
        cluster(marks, 0, LEFT, 0);
        cluster(marks, 0, RIGHT, 10);
        cluster(marks, 0, CROWN, 12);
        cluster(marks, 0, FOOT, 0);
        s.says("Boxes", "a cluster without a base is laid as if it had a base with width, height and both anchors 0.");
        MarkStacks bare = Check.loaded("base z 20 20 20 20;mark m 1 above 4 2 3;mark n 2 below 5 3 2;mark o 3 through 6 4 1;"
                + "line z m n o;line m n o z;");
        box(bare, 0, 0, 1, 17, 21, 21, 23);
        box(bare, 0, 1, 2, 18, 23, -4, -1);
        box(bare, 0, 2, 3, 9, 15, 10, 14);
        long[][] boxes = {{1, -3, 1, 1, 3}, {2, -2, 3, -4, -1}, {3, -1, 5, 0, 4}};
        for (int mark = 0; mark < 3; mark++) {
            for (int what = 0; what < 5; what++) {
                int told = mark;
                int asked = what;
                s.due("box(1, 0, " + mark + ", " + what + ")", boxes[mark][what], () -> bare.box(1, 0, told, asked));
            }
        }
        long[] sides = {-1, 3, 0, 0, -3, 5, 4, -4, 3};
        for (int what = 0; what < 9; what++) {
            int asked = what;
            s.due("cluster(1, 0, " + what + ")", sides[what], () -> bare.cluster(1, 0, asked));
        }
        s.due("the pen behind it", 0, () -> bare.cluster(1, 1, PEN));
        s.says("Boxes", "The top is the height at first, the bottom 0.");
        box(Texts.with("a ac"), 0, 0, 2, 3, 7, 13, 15);
        box(Texts.with("a ce"), 0, 0, 4, 3, 6, -4, -1);
    }

    private void marks() {
        MarkStacks stacked = Texts.with("a ac do ac ce ce");
        s.says("Boxes", "Then, for each mark in the order of the decomposed form:");
        long[] order = {4, 4, 2, 3, 2};
        for (int mark = 0; mark < 5; mark++) {
            box(stacked, 0, mark, order[mark]);
        }
        s.says("Boxes", "above: its lower edge is the top plus 1, its upper edge that plus its size, which is the top then; "
                + "its left edge is the upper anchor of the base minus its own anchor.");
        box(stacked, 0, 2, 2, 3, 7, 13, 15);
        box(stacked, 0, 3, 3, 4, 6, 16, 19);
        box(stacked, 0, 4, 2, 3, 7, 20, 22);
        s.says("Boxes", "below: its upper edge is the bottom minus 1, its lower edge that minus its size, which is the bottom "
                + "then; its left edge is the lower anchor of the base minus its own anchor.");
        box(stacked, 0, 0, 4, 3, 6, -4, -1);
        box(stacked, 0, 1, 4, 3, 6, -8, -5);
        s.says("Boxes", "The right edge of a mark is its left edge plus its width.");
        box(Check.loaded("base b 1 1 0 20;mark m 1 above 9 1 9;mark n 2 below 1 1 0;line b m n;"), 0, 0, 1, -9, 0);
        box(Check.loaded("base b 1 1 0 20;mark m 1 above 9 1 9;mark n 2 below 1 1 0;line b m n;"), 0, 1, 2, 20, 21);
    }

    private void half(String base, int left, int lower) {
        MarkStacks marks = Check.loaded("base b " + base + " 3 3;mark m 1 through 9 9 2;line b m m;");
        box(marks, 0, 0, 1, left, left + 9, lower, lower + 9);
        box(marks, 0, 1, 1, left, left + 9, lower, lower + 9);
    }

    private void through() {
        s.says("Boxes", "through: its lower edge is half of the height of the base (rounded down), its upper edge that plus "
                + "its size (top and bottom stay); its left edge is half of the width of the base (rounded down) minus its "
                + "own anchor.");
        half("1 1", -2, 0);
        half("2 3", -1, 1);
        half("3 2", -1, 1);
        half("19 20", 7, 10);
        half("20 19", 8, 9);
        MarkStacks marks = Check.loaded("base b 4 5 2 2;mark m 1 through 9 9 2;mark n 2 above 1 1 0;mark o 3 below 1 1 0;"
                + "line b m n o;");
        box(marks, 0, 1, 2, 2, 3, 6, 7);
        box(marks, 0, 2, 3, 2, 3, -2, -1);
    }

    private void sides() {
        s.says("Boxes", "The left side of a cluster is the least of 0 and all left edges, its right side the greatest of the "
                + "width of the base and all right edges;");
        MarkStacks marks = Check.loaded("base b 5 5 1 20;mark m 1 above 3 1 2;mark n 2 below 9 1 0;mark o 3 above 1 1 9;"
                + "line b b m b n b m n b o m b m m;");
        long[][] due = {{0, 5}, {-1, 5}, {0, 29}, {-1, 29}, {-8, 5}, {-1, 5}};
        for (int cluster = 0; cluster < 6; cluster++) {
            cluster(marks, cluster, LEFT, due[cluster][0]);
            cluster(marks, cluster, RIGHT, due[cluster][1]);
        }
        MarkStacks bare = Check.loaded("mark m 1 above 3 1 5;line m;");
        cluster(bare, 0, LEFT, -5);
        cluster(bare, 0, RIGHT, 0);
        MarkStacks right = Check.loaded("base b 5 5 5 5;mark m 1 above 1 1 0;line b m;");
        cluster(right, 0, LEFT, 0);
        cluster(right, 0, RIGHT, 6);
    }

    private void crowns() {
        s.says("Boxes", "its crown is the greatest of the top at the end and all upper edges, its foot the least of the bottom "
                + "at the end and all lower edges.");
        MarkStacks marks = Check.loaded("base b 5 4 1 1;mark m 1 through 1 1 0;mark n 2 through 1 3 0;mark o 3 above 1 1 0;"
                + "mark q 4 below 1 9 0;line b b m b n b o b n o b q b q q o b m n;");
        long[][] due = {{4, 0}, {4, 0}, {5, 0}, {6, 0}, {6, 0}, {4, -10}, {6, -20}, {5, 0}};
        for (int cluster = 0; cluster < 8; cluster++) {
            cluster(marks, cluster, CROWN, due[cluster][0]);
            cluster(marks, cluster, FOOT, due[cluster][1]);
        }
        MarkStacks bare = Check.loaded("mark q 4 below 1 9 0;line q;");
        cluster(bare, 0, CROWN, 0);
        cluster(bare, 0, FOOT, -10);
    }

    private void pen() {
        s.says("Boxes", "The pen of a cluster is the sum of the widths of the bases of all clusters of the line ahead of it;");
        MarkStacks marks = Texts.with("ac a e do ac a e");
        long[] due = {0, 0, 10, 18, 28};
        for (int cluster = 0; cluster < 5; cluster++) {
            cluster(marks, cluster, PEN, due[cluster]);
        }
        cluster(Check.loaded("base b 20 1 1 1;line" + Texts.times(60, " b") + ";"), 59, PEN, 1180);
        s.says("Boxes", "all that is in the cluster stands so much further to the right.");
        MarkStacks wide = Check.loaded("base b 4 4 2 2;mark m 1 above 4 2 2;mark n 2 above 5 2 2;line b m b m;line b n b m;");
        s.due("side by side, the edges meet", 0, () -> Check.bit(wide.clashes(0, 0)));
        s.due("by one", 1, () -> Check.bit(wide.clashes(1, 0)));
    }

    /** Marks of b (4 by 4, both anchors 2) and of a second one; the second cluster stands 4 to the right. */
    private void overlap(String first, String second, int due) {
        overlapOf("b", first, second, due);
    }

    private void overlapOf(String base, String first, String second, int due) {
        MarkStacks marks = Check.loaded("base b 4 4 2 2;base c 4 4 0 0;mark m 1 above 4 2 2;mark n 2 above 5 2 2;"
                + "mark o 3 above 9 2 9;"
                + "mark p 4 above 5 2 9;mark t 5 through 9 3 9;mark u 6 through 9 9 9;mark v 7 through 9 4 0;"
                + "mark x 8 below 9 9 0;mark y 9 above 9 9 0;mark z 10 through 9 3 0;"
                + "line b " + first + " " + base + " " + second + ";");
        String told = "b " + first + " " + base + " " + second;
        s.due("clashes of " + told, due, () -> Check.bit(marks.clashes(0, 0)));
        s.due("line(0, 8) of " + told, due, () -> marks.line(0, 8));
    }

    private void overlap() {
        s.says("Boxes", "Two clusters side by side clash if a mark of the one and a mark of the other one overlap:");
        overlap("", "", 0);
        overlap("y", "", 0);
        overlap("", "o", 0);
        overlap("m", "o", 1);
        overlap("n", "m", 1);
        s.says("Boxes", "the left edge of each is less than the right edge of the other one,");
        // m goes from 0 to 4, n from 0 to 5; in the second cluster from 4 to 8, o from -3 to 6, p from -3 to 2.
        overlap("m", "m", 0);
        overlap("m", "n", 0);
        overlap("n", "n", 1);
        overlap("m", "p", 1);
        // The first o goes from -7 to 2: ahead of the second m; p from -7 to -2, the second p from -3 to 2.
        overlap("o", "m", 0);
        overlap("p", "o", 1);
        overlap("p p", "p", 1);
        // On c, p goes from -5 to 0, where the first m begins, and o to 4.
        overlapOf("c", "m", "p", 0);
        overlapOf("c", "m", "o", 1);
        s.says("Boxes", "and the lower edge of each less than the upper edge of the other one.");
        // Upward, t and z go from 2 to 5 (as far as m begins), v from 2 to 6, u from 2 to 11, m from 5 to 7.
        overlap("m", "t", 0);
        overlap("m", "u", 1);
        overlap("v", "m", 1);
        overlap("v", "t", 1);
        overlap("x", "o", 0);
        overlap("y", "m m m m", 1);
        overlap("z", "m", 0);
        overlap("v", "x", 0);
    }

    private void cluster() {
        s.says("Promise 16", "Returns a number of a cluster.");
        s.due("cluster(3, 2, 1)", 3, () -> usual.cluster(3, 2, 1));
        s.says("Promise 16", "0 its base (NONE without one), 1 its marks, 2 its first place in the decomposed form, 3 its pen, "
                + "4 its left side, 5 its right side, 6 its crown, 7 its foot (4, 5 without the pen), 8 how many signs of the "
                + "composed form come from it");
        long[][] due = {{-1, 1, 0, 0, -2, 2, 3, 0, 1}, {0, 1, 1, 0, 0, 10, 15, 0, 1}, {0, 3, 3, 10, 0, 10, 15, -4, 3}};
        for (int cluster = 0; cluster < 3; cluster++) {
            for (int what = 0; what < 9; what++) {
                int told = cluster;
                int asked = what;
                s.due("cluster(3, " + cluster + ", " + what + ")", due[cluster][what],
                        () -> usual.cluster(3, told, asked));
            }
        }
        cluster(Texts.with("a do ac ac"), 0, KEPT, 4);
        cluster(Texts.with("a"), 0, KEPT, 1);
        cluster(Texts.with("ac do a"), 0, KEPT, 2);
        cluster(Texts.with("ac do a"), 1, START, 2);
        cluster(Texts.with("ac do a"), 1, BASE, 0);
        cluster(Texts.with("ac do a"), 1, MARKS, 0);
        MarkStacks most = Check.loaded("base a 1 1 0 0;mark m 1 above 1 1 0;pair b a m;pair c b m;pair d c m;pair e d m;"
                + "pair f e m;line" + Texts.times(59, " a") + " f;line f" + Texts.times(59, " m") + ";");
        cluster(most, 59, START, 59);
        cluster(most, 59, MARKS, 5);
        s.due("the most marks", 64, () -> most.cluster(1, 0, 1));
        s.due("the greatest crown", 129, () -> most.cluster(1, 0, 6));
    }

    private void clusterRefused() {
        s.says("Promise 16", "if there is no such line or cluster or what is out of range");
        s.noElement("cluster(3, 3, 0)", () -> usual.cluster(3, 3, 0));
        s.noElement("cluster(2, 0, 0)", () -> usual.cluster(2, 0, 0));
        s.noElement("cluster(3, 0, 9)", () -> usual.cluster(3, 0, 9));
        for (int number : NO_NUMBERS) {
            s.noElement("cluster(3, " + number + ", 0)", () -> usual.cluster(3, number, 0));
            s.noElement("cluster(3, 0, " + number + ")", () -> usual.cluster(3, 0, number));
        }
        for (int line : NO_LINES) {
            s.noElement("cluster(" + line + ", 0, 0)", () -> usual.cluster(line, 0, 0));
        }
    }

    private void box() {
        s.says("Promise 17", "Returns a number of a mark of a cluster, in the order of the decomposed form.");
        MarkStacks marks = Texts.with("a ce e do ac ce st");
        long[] order = {5, 4, 3, 2};
        for (int mark = 0; mark < 4; mark++) {
            box(marks, 1, mark, order[mark]);
        }
        s.says("Promise 17", "0 its sign, 1 its left edge, 2 its right edge, 3 its lower edge, 4 its upper edge "
                + "(1, 2 without the pen)");
        box(marks, 0, 0, 4, 3, 6, -4, -1);
        box(marks, 1, 0, 5, 1, 7, 5, 6);
        box(marks, 1, 1, 4, 2, 5, -4, -1);
        box(marks, 1, 2, 3, 3, 5, 12, 15);
        box(marks, 1, 3, 2, 2, 6, 16, 18);
    }

    private void boxRefused() {
        MarkStacks marks = Texts.with("a ce e do ac ce st e");
        s.says("Promise 17", "if there is no such line, cluster or mark or what is out of range");
        s.noElement("the mark of the next cluster", () -> marks.box(0, 0, 1, 0));
        s.noElement("behind the last mark", () -> marks.box(0, 1, 4, 0));
        s.noElement("a cluster without marks", () -> marks.box(0, 2, 0, 0));
        s.noElement("behind the last cluster", () -> marks.box(0, 3, 0, 0));
        s.noElement("behind the last number", () -> marks.box(0, 0, 0, 5));
        s.noElement("a line without clusters", () -> usual.box(2, 0, 0, 0));
        for (int number : NO_NUMBERS) {
            s.noElement("box(0, " + number + ", 0, 0)", () -> marks.box(0, number, 0, 0));
            s.noElement("box(0, 1, " + number + ", 0)", () -> marks.box(0, 1, number, 0));
            s.noElement("box(0, 1, 0, " + number + ")", () -> marks.box(0, 1, 0, number));
        }
        for (int line : NO_LINES) {
            s.noElement("box(" + line + ", 0, 0, 0)", () -> usual.box(line, 0, 0, 0));
        }
        MarkStacks most = Check.loaded("base a 1 1 0 0;mark m 1 above 1 1 0;pair b a m;pair c b m;pair d c m;pair e d m;"
                + "pair f e m;line f" + Texts.times(59, " m") + ";");
        box(most, 0, 63, 1, 0, 1, 128, 129);
        s.noElement("behind the most marks", () -> most.box(0, 0, 64, 0));
    }

    private void clashes() {
        s.says("Promise 19", "Returns whether a cluster clashes with the next one.");
        MarkStacks marks = Check.loaded("base i 4 5 2 2;mark w 2 above 5 2 2;line i w i w i i w i w;line i;line;line w w i w;");
        long[] due = {1, 0, 0, 1};
        for (int cluster = 0; cluster < 4; cluster++) {
            int asked = cluster;
            s.due("clashes(0, " + cluster + ")", due[cluster], () -> Check.bit(marks.clashes(0, asked)));
        }
        s.due("a cluster without a base", 0, () -> Check.bit(marks.clashes(3, 0)));
        s.says("Promise 19", "if there is no such line or cluster, or it is the last one");
        s.noElement("the last one", () -> Check.bit(marks.clashes(0, 4)));
        s.noElement("behind the last one", () -> Check.bit(marks.clashes(0, 5)));
        s.noElement("the last one, as it is alone", () -> Check.bit(marks.clashes(1, 0)));
        s.noElement("without clusters", () -> Check.bit(marks.clashes(2, 0)));
        for (int number : NO_NUMBERS) {
            s.noElement("clashes(0, " + number + ")", () -> Check.bit(marks.clashes(0, number)));
        }
        for (int line : NO_LINES) {
            s.noElement("clashes(" + line + ", 0)", () -> Check.bit(marks.clashes(line, 0)));
        }
    }
}
