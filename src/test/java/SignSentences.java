/** The sentences on signs: Signs, promises 5 to 11. */
final class SignSentences {
    /** a 0, m 1, b 2 (a m), c 3, d 4, e 5, f 6 (with six signs). */
    private static final String CHAIN = "base a 1 1 1 1;mark m 1 above 1 1 1;pair b a m;pair c b m;pair d c m;"
            + "pair e d m;pair f e m;";
    private static final int[] NO_SIGNS = {-1, 9, 40, Integer.MIN_VALUE, Integer.MAX_VALUE};

    private final Sentences s;
    private final MarkStacks usual = Texts.usual();

    private SignSentences(Sentences sentences) {
        s = sentences;
    }

    static void check(Sentences sentences) {
        SignSentences signs = new SignSentences(sentences);
        signs.most();
        signs.ranges();
        signs.parts();
        signs.spareOnes();
        signs.expansions();
        signs.size();
        signs.sign();
        signs.signRefused();
        signs.letter();
        signs.expanded();
        signs.pairOf();
        signs.used();
        signs.recomposed();
    }

    /** Forty bases, whose names tell their numbers. */
    private static String forty() {
        StringBuilder text = new StringBuilder();
        for (int i = 0; i < 40; i++) {
            text.append("base ").append((char) ('b' + i / 10)).append((char) ('p' + i % 10)).append(" 1 1 1 1;");
        }
        return text.toString();
    }

    private void most() {
        s.says("Signs", "All numbers are integers unless something else is said.");
        s.due("the width of the sign 0", 10, () -> usual.sign(0, 3));
        s.says("Signs", "There are at most 40 signs, numbered from 0 in the order in which they are told;");
        MarkStacks marks = new MarkStacks();
        s.due("load of forty signs", 40, () -> Check.load(marks, forty() + "line;"));
        for (int sign = 0; sign < 40; sign++) {
            int asked = sign;
            s.due("a letter of the sign " + sign, 'b' + sign / 10, () -> marks.letter(asked, 0));
            s.due("another letter of the sign " + sign, 'p' + sign % 10, () -> marks.letter(asked, 1));
        }
        s.noElement("letter(40, 0)", () -> marks.letter(40, 0));
        s.due("load of the 41st", -15, () -> Check.load(marks, forty() + "mark zz 1 above 1 1 1;line;"));
        s.due("forty signs stay", 40, () -> marks.size(0));
        s.says("Signs", "each has a name.");
        s.due("load without a name", -11, () -> Check.load(marks, "base 1 1 1 1;line;"));
        s.due("the name of the last sign", 'y', () -> marks.letter(39, 1));
        s.says("Signs", "A sign is a base, a mark, or composed.");
        long[] kinds = {0, 0, 1, 1, 1, 1, 2, 2, 2};
        for (int sign = 0; sign < 9; sign++) {
            int asked = sign;
            s.due("the kind of the sign " + sign, kinds[sign], () -> usual.sign(asked, 0));
        }
    }

    private void base(String numbers, boolean right) {
        s.due("a base with " + numbers, right ? 1 : -12,
                () -> Check.load(new MarkStacks(), "base a " + numbers + ";line;"));
    }

    private void mark(String numbers, boolean right) {
        s.due("a mark with " + numbers, right ? 1 : -12,
                () -> Check.load(new MarkStacks(), "mark m " + numbers + ";line;"));
    }

    private void ranges() {
        s.says("Signs", "A base has a width and a height (1 to 20 each), an upper anchor and a lower anchor "
                + "(0 to 20 each;");
        base("1 1 0 0", true);
        base("20 20 20 20", true);
        base("0 1 0 0", false);
        base("1 0 0 0", false);
        base("21 20 20 20", false);
        base("20 21 20 20", false);
        base("20 20 21 20", false);
        base("20 20 20 21", false);
        s.says("Signs", "places along its width).");
        base("1 1 20 20", true);
        s.says("Signs", "A mark has a class (1 to 60), a side (above, below or through), a width and a size "
                + "(1 to 9 each), and an anchor (0 to 9;");
        mark("1 above 1 1 0", true);
        mark("60 below 9 9 9", true);
        mark("30 through 1 9 9", true);
        mark("0 above 1 1 0", false);
        mark("61 above 1 1 0", false);
        mark("1 above 0 1 0", false);
        mark("1 above 10 1 0", false);
        mark("1 above 1 0 0", false);
        mark("1 above 1 10 0", false);
        mark("1 above 1 1 10", false);
        s.says("Signs", "a place along its width).");
        mark("1 above 1 1 9", true);
        s.says("Signs", "Marks of the same class have the same side.");
        s.due("load", -14, () -> Check.load(new MarkStacks(), "mark m 9 above 1 1 1;mark o 8 below 1 1 1;"
                + "mark n 9 below 1 1 1;line;"));
        s.due("setClass", -2, () -> Texts.usual().setClass(2, 5));
        s.due("bestClass", 6, () -> Texts.with("ce do").bestClass(0, 3));
    }

    private void parts() {
        s.says("Signs", "A composed sign has a first part (a base or a composed sign that was told before) and a second "
                + "part (a mark).");
        s.due("load", 7, () -> Check.load(new MarkStacks(), CHAIN + "line;"));
        s.due("itself", -14, () -> Check.load(new MarkStacks(), "base a 1 1 1 1;mark m 1 above 1 1 1;pair b b m;line;"));
        s.due("a later one", -14, () -> Check.load(new MarkStacks(),
                "base a 1 1 1 1;mark m 1 above 1 1 1;pair b c m;pair c a m;line;"));
        s.due("a mark first", -14, () -> Check.load(new MarkStacks(), "mark m 1 above 1 1 1;pair b m m;line;"));
        s.due("a base behind", -14, () -> Check.load(new MarkStacks(), CHAIN + "pair g a a;line;"));
        s.due("a composed sign behind", -14, () -> Check.load(new MarkStacks(), CHAIN + "pair g a b;line;"));
        s.says("Signs", "No two composed signs have the same parts.");
        s.due("load", -13, () -> Check.load(new MarkStacks(), CHAIN + "pair g a m spare;line;"));
        s.due("load", -13, () -> Check.load(new MarkStacks(), CHAIN + "pair g e m;line;"));
    }

    private void spareOnes() {
        s.says("Signs", "It may be spare;");
        s.due("one that is", 1, () -> usual.sign(7, 5));
        s.due("one that is not", 0, () -> usual.sign(6, 5));
        s.says("Signs", "a spare one is decomposed as others, but never made by composing.");
        MarkStacks marks = Check.loaded("base a 1 1 1 1;mark m 1 above 1 1 1;pair b a m spare;pair c b m;line b;line a m;"
                + "line c;line a m m;");
        s.text("decomposed", "a +m", Check.written(marks, 0, 1));
        s.text("composed", "a +m", Check.written(marks, 0, 2));
        s.text("composed from its parts", "a +m", Check.written(marks, 1, 2));
        s.text("one with a spare part", "a +m +m", Check.written(marks, 2, 2));
        s.text("one with a spare part", "a +m +m", Check.written(marks, 3, 2));
        marks.setSpare(2, false);
        s.text("not spare any more", "*b", Check.written(marks, 1, 2));
        s.text("not spare any more", "*c", Check.written(marks, 3, 2));
    }

    private void expansions() {
        s.says("Signs", "The expansion of a base or a mark is it alone;");
        for (int sign = 0; sign < 6; sign++) {
            int asked = sign;
            s.due("of " + sign, 1, () -> usual.sign(asked, 2));
            s.due("of " + sign, sign, () -> usual.expanded(asked, 0));
            s.noElement("of " + sign + " behind it", () -> usual.expanded(asked, 1));
        }
        s.says("Signs", "that of a composed sign is the expansion of its first part and, behind it, its second part.");
        long[] expansion = {0, 2, 4};
        for (int i = 0; i < 3; i++) {
            int asked = i;
            s.due("the sign " + i + " of ab", expansion[i], () -> usual.expanded(7, asked));
        }
        s.says("Signs", "An expansion has at most 6 signs.");
        MarkStacks marks = Check.loaded(CHAIN + "line;");
        s.due("the signs of f", 6, () -> marks.sign(6, 2));
        s.due("the last one", 1, () -> marks.expanded(6, 5));
        s.due("load of a seventh", -15, () -> Check.load(marks, CHAIN + "pair g f m;line;"));
        s.says("Signs", "The class of a base and of a composed sign is 0.");
        long[] classes = {0, 0, 10, 10, 5, 1, 0, 0, 0};
        for (int sign = 0; sign < 9; sign++) {
            int asked = sign;
            s.due("of " + sign, classes[sign], () -> usual.sign(asked, 1));
        }
    }

    private void size() {
        s.says("Promise 5", "Returns a number: what 0 signs, 1 bases, 2 marks, 3 composed signs, 4 spare ones, 5 lines, "
                + "6 the line at hand.");
        long[] numbers = {9, 2, 4, 3, 1, 4, 1};
        for (int what = 0; what < 7; what++) {
            int asked = what;
            s.due("size(" + what + ")", numbers[what], () -> usual.size(asked));
        }
        MarkStacks marks = Texts.usual();
        marks.setSpare(6, true);
        marks.hand(3);
        s.due("spare ones behind setSpare", 2, () -> marks.size(4));
        s.due("the line at hand behind hand", 3, () -> marks.size(6));
        s.says("Promise 5", "if what is out of range");
        for (int what : new int[] {-1, 7, 40, Integer.MIN_VALUE, Integer.MAX_VALUE}) {
            s.noElement("size(" + what + ")", () -> usual.size(what));
        }
    }

    private void numbers(String sentence, int sign, int from, long... due) {
        s.says("Promise 6", sentence);
        for (int i = 0; i < due.length; i++) {
            int asked = from + i;
            s.due("sign(" + sign + ", " + asked + ")", due[i], () -> usual.sign(sign, asked));
        }
    }

    private void sign() {
        numbers("Returns a number of a sign.", 8, 0, 2);
        numbers("0 its kind (0 a base, 1 a mark, 2 composed)", 0, 0, 0);
        numbers("0 its kind (0 a base, 1 a mark, 2 composed)", 5, 0, 1);
        numbers("0 its kind (0 a base, 1 a mark, 2 composed), 1 its class, 2 the signs in its expansion;", 7, 0, 2, 0, 3);
        numbers("then, of a base: 3 its width, 4 its height, 5 its upper anchor, 6 its lower anchor;", 0, 3, 10, 12, 5, 4);
        numbers("then, of a base: 3 its width, 4 its height, 5 its upper anchor, 6 its lower anchor;", 1, 3, 8, 11, 4, 3);
        numbers("of a mark: 3 its width, 4 its size, 5 its anchor", 2, 3, 4, 2, 2);
        numbers("of a mark: 3 its width, 4 its size, 5 its anchor, 6 its side (0 above, 1 below, 2 through);", 3, 3, 2, 3, 1, 0);
        numbers("6 its side (0 above, 1 below, 2 through);", 4, 6, 1);
        numbers("6 its side (0 above, 1 below, 2 through);", 5, 6, 2);
        numbers("of a composed sign: 3 its first part, 4 its second part, 5 1 if it is spare", 7, 3, 6, 4, 1);
        numbers("otherwise 0", 8, 5, 0);
        numbers("6 how many lines have it (as they are written)", 6, 6, 1);
        MarkStacks marks = Check.loaded(Texts.SIGNS + "line aa aa;line a ac;line;line ab aa;");
        s.due("a sign twice in a line, and in its end", 2, () -> marks.sign(6, 6));
        s.due("a sign in one line", 1, () -> marks.sign(7, 6));
        s.due("a sign in no line", 0, () -> marks.sign(8, 6));
        marks.join(1, 0);
        marks.join(2, 0);
        s.due("a sign in all lines", 4, () -> marks.sign(6, 6));
        marks.erase(2, 0, 1);
        s.due("a sign that went", 3, () -> marks.sign(6, 6));
    }

    private void signRefused() {
        s.says("Promise 6", "if there is no such sign or what is out of range");
        for (int sign : NO_SIGNS) {
            s.noElement("sign(" + sign + ", 0)", () -> usual.sign(sign, 0));
        }
        for (int sign = 0; sign < 9; sign++) {
            int asked = sign;
            s.noElement("sign(" + sign + ", 7)", () -> usual.sign(asked, 7));
            s.noElement("sign(" + sign + ", -1)", () -> usual.sign(asked, -1));
        }
        s.noElement("sign of the least number", () -> usual.sign(0, Integer.MIN_VALUE));
        s.noElement("sign of the greatest number", () -> usual.sign(0, Integer.MAX_VALUE));
    }

    private void letter() {
        MarkStacks marks = Check.loaded("base z 1 1 1 1;mark abcd 1 above 1 1 1;pair yx z abcd;line;");
        s.says("Promise 7", "Returns a letter of the name of a sign as a byte;");
        s.due("letter(0, 0)", 'z', () -> marks.letter(0, 0));
        s.due("letter(2, 1)", 'x', () -> marks.letter(2, 1));
        for (int i = 0; i < 4; i++) {
            int asked = i;
            s.due("letter(1, " + i + ")", 'a' + i, () -> marks.letter(1, asked));
        }
        s.says("Promise 7", "NONE behind the last one.");
        for (int letter : new int[] {1, 2, 3, 4, 5, 32, 33, Integer.MAX_VALUE}) {
            s.due("letter(0, " + letter + ")", -1, () -> marks.letter(0, letter));
        }
        for (int letter : new int[] {4, 5, 8, 536870912, Integer.MAX_VALUE}) {
            s.due("letter(1, " + letter + ")", -1, () -> marks.letter(1, letter));
        }
        s.due("letter(2, 2)", -1, () -> marks.letter(2, 2));
        s.says("Promise 7", "if there is no such sign, or letter is negative");
        s.noElement("letter(3, 0)", () -> marks.letter(3, 0));
        s.noElement("letter(-1, 0)", () -> marks.letter(-1, 0));
        s.noElement("letter(0, -1)", () -> marks.letter(0, -1));
        s.noElement("letter of the least number", () -> marks.letter(0, Integer.MIN_VALUE));
        s.noElement("letter of the greatest sign", () -> marks.letter(Integer.MAX_VALUE, 0));
        s.noElement("letter of a new object", () -> new MarkStacks().letter(0, 0));
    }

    private void expanded() {
        s.says("Promise 8", "Returns a sign of the expansion of a sign.");
        s.due("expanded(7, 0)", 0, () -> usual.expanded(7, 0));
        s.due("expanded(7, 1)", 2, () -> usual.expanded(7, 1));
        s.due("expanded(7, 2)", 4, () -> usual.expanded(7, 2));
        s.says("Promise 8", "if there is no such sign or index");
        s.noElement("expanded(7, 3)", () -> usual.expanded(7, 3));
        s.noElement("expanded(7, -1)", () -> usual.expanded(7, -1));
        s.noElement("expanded(6, 2)", () -> usual.expanded(6, 2));
        s.noElement("expanded(0, 1)", () -> usual.expanded(0, 1));
        s.noElement("expanded(7, least)", () -> usual.expanded(7, Integer.MIN_VALUE));
        s.noElement("expanded(7, greatest)", () -> usual.expanded(7, Integer.MAX_VALUE));
        for (int sign : NO_SIGNS) {
            s.noElement("expanded(" + sign + ", 0)", () -> usual.expanded(sign, 0));
        }
    }

    private void pairOf() {
        s.says("Promise 9", "Returns the composed sign with these parts, spare or not;");
        s.due("pairOf(0, 2)", 6, () -> usual.pairOf(0, 2));
        s.due("pairOf(6, 4), spare", 7, () -> usual.pairOf(6, 4));
        s.due("pairOf(1, 4)", 8, () -> usual.pairOf(1, 4));
        s.says("Promise 9", "NONE if there is none.");
        s.due("pairOf(2, 0)", -1, () -> usual.pairOf(2, 0));
        s.due("pairOf(0, 0)", -1, () -> usual.pairOf(0, 0));
        s.due("pairOf(7, 4)", -1, () -> usual.pairOf(7, 4));
        s.due("pairOf(0, 3)", -1, () -> usual.pairOf(0, 3));
        s.due("pairOf(1, 2)", -1, () -> usual.pairOf(1, 2));
        int none = 0;
        for (int pair = 0; pair < 81; pair++) {
            none += usual.pairOf(pair / 9, pair % 9) == -1 ? 1 : 0;
        }
        s.holds("all other ones", none == 78);
        s.says("Promise 9", "if there is no such sign");
        for (int sign : NO_SIGNS) {
            s.noElement("pairOf(" + sign + ", 2)", () -> usual.pairOf(sign, 2));
            s.noElement("pairOf(0, " + sign + ")", () -> usual.pairOf(0, sign));
        }
        s.noElement("pairOf(-1, -1)", () -> usual.pairOf(-1, -1));
    }

    private void used() {
        s.says("Promise 10", "Returns how many composed signs have a sign in their expansions.");
        long[] due = {2, 1, 2, 0, 2, 0, 0, 0, 0};
        for (int sign = 0; sign < 9; sign++) {
            int asked = sign;
            s.due("used(" + sign + ")", due[sign], () -> usual.used(asked));
        }
        MarkStacks chain = Check.loaded(CHAIN + "line;");
        s.due("a mark that is five times in one of them", 5, () -> chain.used(1));
        s.says("Promise 10", "if there is no such sign");
        for (int sign : NO_SIGNS) {
            s.noElement("used(" + sign + ")", () -> usual.used(sign));
        }
    }

    private void recomposed() {
        s.says("Promise 11", "Returns the composed sign that the composed form of the expansion of a sign begins with");
        s.due("of aa", 6, () -> usual.recomposed(6));
        s.due("of ec", 8, () -> usual.recomposed(8));
        s.due("of ab, which is spare", 6, () -> usual.recomposed(7));
        MarkStacks chain = Check.loaded(CHAIN + "line;");
        s.due("of the longest", 6, () -> chain.recomposed(6));
        s.says("Promise 11", "or the first sign of that form if this is not composed.");
        for (int sign = 0; sign < 6; sign++) {
            int asked = sign;
            s.due("of " + sign, sign, () -> usual.recomposed(asked));
        }
        chain.setSpare(2, true);
        s.due("without b", 0, () -> chain.recomposed(6));
        s.due("of b, which is spare", 0, () -> chain.recomposed(2));
        s.says("Promise 11", "if there is no such sign");
        for (int sign : NO_SIGNS) {
            s.noElement("recomposed(" + sign + ")", () -> usual.recomposed(sign));
        }
    }
}
