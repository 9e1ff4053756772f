/** The sentences on what is counted and compared: promises 18 and 20 to 28. */
final class CountSentences {
    private static final int[] NO_LINES = {-1, 4, Integer.MIN_VALUE, Integer.MAX_VALUE};
    private static final int[] NO_NUMBERS = {-1, Integer.MIN_VALUE, Integer.MAX_VALUE};
    private static final int[] NO_SIGNS = {-1, 9, 40, Integer.MIN_VALUE, Integer.MAX_VALUE};

    private final Sentences s;
    private final MarkStacks usual = Texts.usual();

    private CountSentences(Sentences sentences) {
        s = sentences;
    }

    static void check(Sentences sentences) {
        CountSentences counts = new CountSentences(sentences);
        counts.spellings();
        counts.fullest();
        counts.compare();
        counts.areBare();
        counts.matches();
        counts.match();
        counts.matchesRefused();
        counts.saved();
        counts.bestClass();
        counts.bestClassRefused();
        counts.meanMarks();
        counts.shortness();
    }

    private void spelled(String line, int cluster, long due) {
        MarkStacks marks = Texts.with(line);
        s.due("spellings(0, " + cluster + ") of " + line, due, () -> marks.spellings(0, cluster));
    }

    /** A base and marks of 19 classes, and a line of some of them. */
    private static MarkStacks manyClasses(int marks) {
        StringBuilder text = new StringBuilder("base z 1 1 1 1;");
        StringBuilder line = new StringBuilder("line z");
        for (int i = 0; i < 19; i++) {
            char name = (char) ('a' + i);
            text.append("mark ").append(name).append(' ').append(60 - i).append(" above 1 1 1;");
            line.append(i < marks ? " " + name : "");
        }
        return Check.loaded(text.toString() + line + ";");
    }

    private void spellings() {
        s.says("Promise 18", "Returns how many different orders the marks of a cluster could be written in, one behind the "
                + "other, so that its decomposed form is the same;");
        spelled("a", 0, 1);
        spelled("a ac", 0, 1);
        spelled("a ac do", 0, 1);
        spelled("a ac ce", 0, 2);
        spelled("a ce ac", 0, 2);
        spelled("a ac ac ce", 0, 3);
        spelled("a st ce ac do ce", 0, 30);
        spelled("st ce ac a", 0, 6);
        spelled("st ce ac a st ce", 1, 2);
        spelled("ab", 0, 2);
        s.due("18 marks of unlike classes", 6402373705728000L, () -> manyClasses(18).spellings(0, 0));
        spelled("a" + Texts.times(18, " ac"), 0, 1);
        spelled("a" + Texts.times(9, " ac") + Texts.times(9, " ce"), 0, 48620);
        spelled("a" + Texts.times(6, " ac") + Texts.times(6, " ce") + Texts.times(6, " st"), 0, 17153136);
        s.says("Promise 18", "-2 if it has more than 18 marks.");
        spelled("a" + Texts.times(19, " ac"), 0, -2);
        spelled(Texts.times(19, " ac"), 0, -2);
        spelled(Texts.times(60, " ac"), 0, -2);
        spelled("aa" + Texts.times(17, " ac"), 0, 1);
        spelled("aa" + Texts.times(18, " ac"), 0, -2);
        spelled("a" + Texts.times(19, " ac") + " a ce ac", 1, 2);
        s.due("19 marks of unlike classes", -2, () -> manyClasses(19).spellings(0, 0));
        s.says("Promise 18", "if there is no such line or cluster");
        s.noElement("spellings(0, 3)", () -> usual.spellings(0, 3));
        s.noElement("spellings(2, 0)", () -> usual.spellings(2, 0));
        for (int number : NO_NUMBERS) {
            s.noElement("spellings(0, " + number + ")", () -> usual.spellings(0, number));
        }
        for (int line : NO_LINES) {
            s.noElement("spellings(" + line + ", 0)", () -> usual.spellings(line, 0));
        }
    }

    private void fullest() {
        s.says("Promise 20", "Returns the cluster with the most marks, of several the first;");
        s.due("fullest(0)", 0, () -> usual.fullest(0));
        s.due("fullest(3)", 2, () -> usual.fullest(3));
        s.due("of two with two marks", 1, () -> Texts.with("a ac e do ce aa st").fullest(0));
        s.due("of two without marks", 0, () -> Texts.with("a e").fullest(0));
        s.due("without a base", 0, () -> Texts.with("ac ac a ac").fullest(0));
        s.due("marks of a composed sign", 1, () -> Texts.with("a ac ab").fullest(0));
        s.says("Promise 20", "NONE without clusters.");
        s.due("fullest(2)", -1, () -> usual.fullest(2));
        s.due("of a new object", -1, () -> new MarkStacks().fullest(0));
        s.says("Promise 20", "if there is no such line");
        for (int line : NO_LINES) {
            s.noElement("fullest(" + line + ")", () -> usual.fullest(line));
        }
    }

    private void compared(String line, String other, int due) {
        MarkStacks marks = Check.loaded(Texts.SIGNS + "line " + line + ";line " + other + ";");
        s.due("of " + line + " and " + other, due, () -> marks.compare(0, 1));
        s.due("of " + other + " and " + line, -due, () -> marks.compare(1, 0));
    }

    private void compare() {
        s.says("Promise 21", "Returns -1, 0 or 1: whether the decomposed form of a line is ahead of, the same as, or behind "
                + "that of another one, compared sign by sign by their numbers");
        compared("a e", "a e", 0);
        compared("aa", "a ac", 0);
        compared("a", "e", -1);
        compared("a ac", "a do", -1);
        compared("a ac e", "a do a", -1);
        compared("ab", "a ce do", -1);
        compared("a ac", "ab", -1);
        compared("ec", "a ac ce", 1);
        s.due("with itself", 0, () -> usual.compare(3, 3));
        s.says("Promise 21", "(a form that is the beginning of another one is ahead of it).");
        compared("a", "a a", -1);
        compared("", "a", -1);
        compared("", "", 0);
        compared("a ce", "ab", -1);
        compared("e", "ec", -1);
        s.says("Promise 21", "if there is no such line");
        for (int line : NO_LINES) {
            s.noElement("compare(" + line + ", 0)", () -> usual.compare(line, 0));
            s.noElement("compare(0, " + line + ")", () -> usual.compare(0, line));
        }
    }

    private void bare(String line, String other, int due) {
        MarkStacks marks = Check.loaded(Texts.SIGNS + "line " + line + ";line " + other + ";");
        s.due("of " + line + " and " + other, due, () -> Check.bit(marks.areBare(0, 1)));
        s.due("of " + other + " and " + line, due, () -> Check.bit(marks.areBare(1, 0)));
    }

    private void areBare() {
        s.says("Promise 22", "Returns whether the bare forms of two lines are the same.");
        bare("a ac e", "aa e", 1);
        bare("a", "a a", 0);
        bare("", "", 1);
        bare("", "a", 0);
        bare("", "ac", 0);
        bare("ac", "do ce", 1);
        bare("ac a", "a", 0);
        bare("ac a", "ce ab", 1);
        bare("a e", "e a", 0);
        s.due("of a line and itself", 1, () -> Check.bit(usual.areBare(0, 0)));
        s.says("Promise 22", "if there is no such line");
        for (int line : NO_LINES) {
            s.noElement("areBare(" + line + ", 0)", () -> Check.bit(usual.areBare(line, 0)));
            s.noElement("areBare(0, " + line + ")", () -> Check.bit(usual.areBare(0, line)));
        }
    }

    private void matched(String line, String pattern, boolean bare, int due) {
        MarkStacks marks = Check.loaded(Texts.SIGNS + "line " + line + ";line " + pattern + ";");
        s.due(pattern + " in " + line, due, () -> marks.matches(0, 1, bare));
    }

    private void matches() {
        s.says("Promise 23", "`bare`: whether only the bases are compared");
        matched("a ac a", "a", true, 2);
        matched("a ac a", "a", false, 1);
        s.says("Promise 23", "Returns at how many clusters of a line all clusters of a pattern line are found, one behind the "
                + "other: the same in all signs, or only in their bases");
        matched("a a a", "a a", false, 2);
        matched("a e a", "a a", true, 0);
        matched("a e a", "a e a", false, 1);
        matched("a e a", "a e a a", true, 0);
        matched("a e a", "e a a", true, 0);
        matched("aa e", "a ac", false, 1);
        matched("a ce ac", "ab", false, 1);
        matched("a ac ce", "a ac", false, 0);
        matched("a ac", "a ac ce", false, 0);
        matched("a ac do", "a do ac", false, 0);
        matched("a ac do", "a do ac", true, 1);
        matched("", "a", true, 0);
        s.due("sixty in sixty", 1, () -> {
            MarkStacks marks = Texts.with(Texts.times(60, " a"));
            return marks.matches(0, 0, false);
        });
        s.says("Promise 23", "(NONE for none).");
        matched("ac a", "do", true, 1);
        matched("ac a", "ac a", false, 1);
        matched("ac a", "do a", false, 0);
        matched("ac a", "do a", true, 1);
        matched("a a", "do a", true, 0);
        matched("a e", "do", true, 0);
    }

    private void match() {
        MarkStacks marks = Check.loaded(Texts.SIGNS + "line ac aa a a ac ce a;line a aa;line do a;line;");
        s.says("Promise 24", "Returns the cluster at which the i-th match (from 0, as matches counts them) begins.");
        long[] due = {1, 2, 3};
        for (int i = 0; i < 3; i++) {
            int asked = i;
            s.due("match(0, 1, true, " + i + ")", due[i], () -> marks.match(0, 1, true, asked));
        }
        s.due("match(0, 0, false, 0)", 0, () -> marks.match(0, 0, false, 0));
        MarkStacks one = Check.loaded(Texts.SIGNS + "line a e ce a;line a;line e ac;line ac a;");
        s.due("a pattern of one cluster", 0, () -> one.match(0, 1, false, 0));
        s.due("its second match", 2, () -> one.match(0, 1, false, 1));
        s.due("a pattern of one cluster, bare", 1, () -> one.match(0, 2, true, 0));
        s.says("Promise 24", "if there is no such line or match, or the pattern has no signs");
        s.noElement("match(0, 1, true, 3)", () -> marks.match(0, 1, true, 3));
        s.noElement("without a match", () -> marks.match(0, 1, false, 0));
        s.noElement("without a cluster without a base", () -> one.match(0, 3, true, 0));
        s.noElement("in a line without signs", () -> marks.match(3, 1, true, 0));
        for (int number : NO_NUMBERS) {
            s.noElement("match(0, 1, true, " + number + ")", () -> marks.match(0, 1, true, number));
        }
        for (boolean bare : new boolean[] {false, true}) {
            s.noElement("a pattern without signs", () -> marks.match(0, 3, bare, 0));
            s.noElement("both without signs", () -> marks.match(3, 3, bare, 0));
            for (int line : NO_LINES) {
                s.noElement("match(" + line + ", 1, " + bare + ", 0)", () -> marks.match(line, 1, bare, 0));
                s.noElement("match(0, " + line + ", " + bare + ", 0)", () -> marks.match(0, line, bare, 0));
            }
        }
    }

    private void matchesRefused() {
        s.says("Promise 23", "if there is no such line, or the pattern has no signs");
        for (boolean bare : new boolean[] {false, true}) {
            s.noElement("a pattern without signs", () -> usual.matches(0, 2, bare));
            s.noElement("both without signs", () -> usual.matches(2, 2, bare));
            for (int line : NO_LINES) {
                s.noElement("matches(" + line + ", 1, " + bare + ")", () -> usual.matches(line, 1, bare));
                s.noElement("matches(0, " + line + ", " + bare + ")", () -> usual.matches(0, line, bare));
            }
        }
    }

    private void saved() {
        s.says("Promise 25", "Returns by how many signs the composed form of a line would be shorter if a composed sign was "
                + "not spare");
        MarkStacks marks = Check.loaded("base a 1 1 1 1;mark m 1 above 1 1 1;mark n 2 above 1 1 1;pair p a m;"
                + "pair q p n spare;line q a n m a n;line;line a n;");
        s.due("in a line that has it twice", 2, () -> marks.saved(0, 4));
        s.due("in a line without signs", 0, () -> marks.saved(1, 4));
        s.due("in a line without it", 0, () -> marks.saved(2, 4));
        s.due("it stays spare", 1, () -> marks.sign(4, 5));
        s.due("the composed form stays", 6, () -> marks.line(0, 2));
        s.says("Promise 25", "(0 if it is not spare now;");
        s.due("the other one", 0, () -> marks.saved(0, 3));
        marks.setSpare(4, false);
        s.due("the same one", 0, () -> marks.saved(0, 4));
        s.says("Promise 25", "below 0 if it would be longer).");
        MarkStacks longer = Check.loaded("base a 1 1 1 1;mark m 1 above 1 1 1;mark n 2 above 1 1 1;mark o 3 above 1 1 1;"
                + "pair p a m spare;pair q a n;pair r q o;line a m n o;line a m n o a m n o;");
        s.due("by one", -1, () -> longer.saved(0, 4));
        s.due("by two", -2, () -> longer.saved(1, 4));
        s.says("Promise 25", "if there is no such line or sign, or it is not composed");
        for (int sign = 0; sign < 6; sign++) {
            int asked = sign;
            s.noElement("saved(0, " + sign + ")", () -> usual.saved(0, asked));
        }
        for (int sign : NO_SIGNS) {
            s.noElement("saved(0, " + sign + ")", () -> usual.saved(0, sign));
        }
        for (int sign = 9; sign < 40; sign++) {
            int asked = sign;
            s.noElement("saved of a sign of an earlier text", () -> usual.saved(0, asked));
        }
        for (int line : NO_LINES) {
            s.noElement("saved(" + line + ", 7)", () -> usual.saved(line, 7));
        }
    }

    private void best(String marks, int mark, int due) {
        MarkStacks made = Check.loaded("base a 1 1 1 1;" + marks);
        s.due("of the mark " + mark + " in " + marks, due, () -> made.bestClass(0, mark));
    }

    private void bestClass() {
        s.says("Promise 26", "Returns the class from 1 to 60 with which a mark would make the swaps of a line least,");
        String two = "mark m 60 above 1 1 1;mark n 3 above 1 1 1;";
        best(two + "line a m n;", 2, 60);
        best(two + "line a n m;", 2, 1);
        best(two + "line a n m;", 1, 3);
        best("mark m 59 above 1 1 1;mark n 3 above 1 1 1;line a m n;", 2, 59);
        best("mark m 59 above 1 1 1;mark n 3 below 1 1 1;line a m n;", 2, 60);
        best("mark m 2 above 1 1 1;mark n 3 above 1 1 1;line a n m;", 2, 1);
        best("mark m 30 above 1 1 1;mark n 3 above 1 1 1;line a m n m n n;", 2, 30);
        s.says("Promise 26", "of several the smallest one,");
        best("mark m 7 above 1 1 1;line a m;", 1, 1);
        best("mark m 7 above 1 1 1;line;", 1, 1);
        best("mark m 7 above 1 1 1;mark n 60 above 1 1 1;line a n;", 1, 1);
        best("mark m 30 above 1 1 1;mark n 3 below 1 1 1;line a m n;", 2, 31);
        best("mark m 30 above 1 1 1;mark n 3 below 1 1 1;line a m n n m m;", 2, 1);
        s.says("Promise 26", "of all classes that setClass would take for it.");
        best("mark m 60 above 1 1 1;mark n 3 below 1 1 1;line a m n;", 2, 1);
        best("mark m 1 above 1 1 1;mark n 3 below 1 1 1;line;", 2, 2);
        best("mark m 1 above 1 1 1;mark n 3 above 1 1 1;line;", 2, 1);
        best("mark m 1 above 1 1 1;mark o 2 above 1 1 1;mark n 3 through 1 1 1;line;", 3, 3);
        best("mark m 1 above 1 1 1;mark o 1 above 1 1 1;mark n 3 through 1 1 1;line;", 1, 1);
        s.due("the class stays", 10, () -> {
            MarkStacks marks = Texts.usual();
            marks.bestClass(0, 2);
            return marks.sign(2, 1);
        });
    }

    private void bestClassRefused() {
        s.says("Promise 26", "if there is no such line or sign, or it is no mark");
        for (int sign : new int[] {0, 1, 6, 7, 8}) {
            s.noElement("bestClass(0, " + sign + ")", () -> usual.bestClass(0, sign));
        }
        for (int sign : NO_SIGNS) {
            s.noElement("bestClass(0, " + sign + ")", () -> usual.bestClass(0, sign));
        }
        for (int sign = 9; sign < 40; sign++) {
            int asked = sign;
            s.noElement("bestClass of a sign of an earlier text", () -> usual.bestClass(0, asked));
        }
        for (int line : NO_LINES) {
            s.noElement("bestClass(" + line + ", 2)", () -> usual.bestClass(line, 2));
        }
    }

    private void meanMarks() {
        s.says("Promise 27", "Returns the marks of all clusters of a line divided by its clusters, as doubles (both converted, "
                + "then divided);");
        s.holds("4 marks, 3 clusters", usual.meanMarks(0) == 4.0 / 3.0);
        s.holds("2 marks, 1 cluster", usual.meanMarks(1) == 2.0);
        s.holds("5 marks, 3 clusters", usual.meanMarks(3) == 5.0 / 3.0);
        s.holds("1 mark, 7 clusters", Texts.with("a a a a a a aa").meanMarks(0) == 1.0 / 7.0);
        s.holds("no mark, 2 clusters", Texts.with("a a").meanMarks(0) == 0.0);
        s.holds("2 marks, a cluster without a base", Texts.with("ac do").meanMarks(0) == 2.0);
        s.says("Promise 27", "0 without clusters.");
        s.holds("meanMarks(2)", usual.meanMarks(2) == 0.0);
        s.holds("meanMarks(0) of a new object", new MarkStacks().meanMarks(0) == 0.0);
        s.says("Promise 27", "if there is no such line");
        for (int line : NO_LINES) {
            s.noElement("meanMarks(" + line + ")", () -> (long) usual.meanMarks(line));
        }
    }

    private void shortness() {
        s.says("Promise 28", "Returns the signs of the composed form of a line divided by those of its decomposed form, as "
                + "floats (both converted, then divided);");
        s.holds("6 of 7", usual.shortness(0) == 6.0f / 7.0f);
        s.holds("2 of 3", usual.shortness(1) == 2.0f / 3.0f);
        s.holds("5 of 7", usual.shortness(3) == 5.0f / 7.0f);
        s.holds("all", Texts.with("a e").shortness(0) == 1.0f);
        s.holds("1 of 2", Texts.with("a ac").shortness(0) == 0.5f);
        s.says("Promise 28", "0 without signs.");
        s.holds("shortness(2)", usual.shortness(2) == 0.0f);
        s.holds("shortness(0) of a new object", new MarkStacks().shortness(0) == 0.0f);
        s.says("Promise 28", "if there is no such line");
        for (int line : NO_LINES) {
            s.noElement("shortness(" + line + ")", () -> (long) usual.shortness(line));
        }
    }
}
