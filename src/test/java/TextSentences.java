/** The sentences on the buffer, the input text and its errors: What it is, Input text, promises 1 to 4. */
final class TextSentences {
    private static final String BASE = "base a 1 2 3 4;";
    private static final String MARK = "mark m 7 above 1 2 3;";
    private static final String BOTH = BASE + MARK;
    private static final int SPACES = 0x20202020;

    private final Sentences s;

    private TextSentences(Sentences sentences) {
        s = sentences;
    }

    static void check(Sentences sentences) {
        TextSentences text = new TextSentences(sentences);
        text.use();
        text.newObject();
        text.feed();
        text.load();
        text.loadRefused();
        text.errorPosition();
        text.tokens();
        text.otherBytes();
        text.grammar();
        text.names();
        text.firstError();
        text.codeOne();
        text.codeTwo();
        text.codeThree();
        text.codeFour();
        text.codeFive();
    }

    private void use() {
        s.says("What it is", "An object is used for at most 512 calls after it has been made;");
        MarkStacks marks = new MarkStacks();
        int calls = 0;
        for (; calls < 45; calls++) {
            marks.feed(SPACES, SPACES, SPACES, 0x20206c69, 0x6e653b20);
        }
        marks.load(20);
        calls++;
        boolean held = true;
        for (; calls < 511; calls++) {
            held &= marks.join(0, 0) == 0;
        }
        s.holds("all operations are answered", held);
        s.due("undoCount(), the call 512", 10, marks::undoCount);
        s.says("What it is", "lines are decomposed, their marks put in order by classes, composed again and compared, "
                + "so that lines which differ only by the order of marks of unlike classes are one;");
        MarkStacks lines = Check.loaded(Texts.SIGNS + "line a ac ce st;line a st ce ac;line a do ac;line a ac do;");
        s.due("compare, unlike classes", 0, () -> lines.compare(0, 1));
        s.due("compare, the same class", 1, () -> lines.compare(2, 3));
        s.says("What it is", "Letters with marks above, below and through them: bases, marks of classes and composed "
                + "signs are told, lines are written with them;");
        s.right(Texts.SIGNS + Texts.LINES);
        s.says("What it is", "marks are stacked by anchors into boxes, clashes are found, spellings counted, clusters "
                + "found again.");
        s.due("box", 12 + 1, () -> lines.box(0, 0, 2, 3));
        s.due("spellings", 6, () -> lines.spellings(0, 0));
        s.due("matches", 1, () -> lines.matches(0, 1, false));
    }

    private void newObject() {
        s.says("Promise 1", "Creates one line without signs, and no signs, as by the text \"line;\"");
        MarkStacks marks = new MarkStacks();
        long[] sizes = {0, 0, 0, 0, 0, 1, 0};
        for (int what = 0; what < 7; what++) {
            int asked = what;
            s.due("size(" + what + ")", sizes[what], () -> marks.size(asked));
        }
        for (int what = 0; what < 9; what++) {
            int asked = what;
            s.due("line(0, " + what + ")", 0, () -> marks.line(0, asked));
        }
        s.noElement("line(1, 0)", () -> marks.line(1, 0));
        s.noElement("sign(0, 0)", () -> marks.sign(0, 0));
        s.text("all of it", State.of(Check.loaded("line;")), State.of(new MarkStacks()));
        s.says("Promise 1", "with an empty buffer.");
        s.illegal("load(1)", () -> new MarkStacks().load(1));
        s.illegal("query(1)", () -> new MarkStacks().query(1));
        s.due("feed", 20, () -> new MarkStacks().feed(0, 0, 0, 0, 0));
    }

    private void feed() {
        s.says("Promise 2", "Appends 20 bytes to the buffer: the four bytes of each parameter, the most significant "
                + "byte first.");
        MarkStacks named = new MarkStacks();
        named.feed(0x62617365, 0x20616263, 0x64203120, 0x32203320, 0x343b6c69);
        named.feed(0x6e653b20, SPACES, SPACES, SPACES, SPACES);
        s.due("load", 1, () -> named.load(40));
        for (int i = 0; i < 4; i++) {
            int asked = i;
            s.due("letter " + i, 'a' + i, () -> named.letter(0, asked));
            s.due("number " + i, 1 + i, () -> named.sign(0, 3 + asked));
        }
        for (int place = 0; place < 20; place++) {
            int at = place;
            int[] words = {SPACES, SPACES, SPACES, SPACES, SPACES};
            words[place / 4] ^= (' ' ^ 0xff) << (24 - 8 * (place % 4));
            MarkStacks marks = new MarkStacks();
            marks.feed(SPACES, SPACES, SPACES, SPACES, SPACES);
            marks.feed(words[0], words[1], words[2], words[3], words[4]);
            s.due("load of a wrong byte", -11, () -> marks.load(40));
            s.due("its position", 20 + at, marks::errorPosition);
        }
        s.says("Promise 2", "Returns the number of bytes in the buffer;");
        MarkStacks marks = new MarkStacks();
        for (int i = 1; i <= 44; i++) {
            s.due("feed", 20 * i, () -> marks.feed(SPACES, SPACES, SPACES, SPACES, SPACES));
        }
        s.due("the feed that fills it", 900, () -> marks.feed(SPACES, SPACES, SPACES, SPACES, 0x6e653b20));
        s.says("Promise 2", "NONE if it would exceed 900, and then nothing is appended.");
        s.due("feed", -1, () -> marks.feed(0x3b3b3b3b, 0x3b3b3b3b, 0x3b3b3b3b, 0x3b3b3b3b, 0x3b3b3b3b));
        s.due("feed again", -1, () -> marks.feed(0, 0, 0, 0, 0));
        s.illegal("load(901)", () -> marks.load(901));
        s.due("load(900)", -11, () -> marks.load(900));
        s.due("the bytes are the earlier ones", 896, marks::errorPosition);
        s.due("feed into the empty buffer", 20, () -> marks.feed(0, 0, 0, 0, 0));
    }

    private void load() {
        s.says("Promise 3", "Reads the first bytes of the buffer as a text, which replaces everything;");
        MarkStacks marks = State.filled();
        marks.load(0);
        s.due("load", 0, () -> Check.load(marks, "line;"));
        s.due("no sign is left", 0, () -> marks.size(0));
        s.due("one line is left", 1, () -> marks.size(5));
        s.due("the line 0 is at hand", 0, () -> marks.size(6));
        s.due("no place is left", 0, () -> marks.line(0, 0));
        s.says("Promise 3", "the undo history and the snapshot are discarded.");
        s.due("undoCount()", 0, marks::undoCount);
        s.due("undo()", -1, marks::undo);
        s.due("restoreSnapshot()", 0, () -> Check.bit(marks.restoreSnapshot()));
        s.says("Promise 3", "The buffer is empty afterwards, also after an error.");
        s.illegal("load(1)", () -> marks.load(1));
        s.due("feed", 20, () -> Check.feed(marks, "line"));
        s.due("load with an error", -11, () -> marks.load(4));
        s.illegal("load(1) behind an error", () -> marks.load(1));
        s.due("feed behind an error", 20, () -> Check.feed(marks, "line"));
        s.due("load of nothing", -11, () -> marks.load(0));
        s.illegal("load(1) behind nothing", () -> marks.load(1));
        s.says("Promise 3", "`length`: number of bytes to read");
        Check.feed(marks, "line; line; ?");
        s.due("load(5)", 0, () -> marks.load(5));
        s.due("one line is read", 1, () -> marks.size(5));
        Check.feed(marks, "line; hand 0");
        s.due("load(12)", -11, () -> marks.load(12));
        s.due("the end of what is read", 12, marks::errorPosition);
        s.says("Promise 3", "Returns the number of signs;");
        s.due("no signs", 0, () -> Check.load(new MarkStacks(), "line;"));
        s.due("one sign", 1, () -> Check.load(new MarkStacks(), BASE + "line;"));
        s.due("forty signs", 40, () -> Check.load(new MarkStacks(), bases(40) + "line;"));
    }

    private void loadRefused() {
        s.says("Promise 3", "-10 minus the error code if the text has an error");
        String[] wrong = {"line", "line;hand 1;", BASE + "base a 1 1 1 1;line;", "line a;", "line;line;line;line;line;"};
        for (int i = 0; i < wrong.length; i++) {
            String text = wrong[i];
            s.due("load of " + text, -11 - i, () -> Check.load(new MarkStacks(), text));
        }
        s.says("Promise 3", "(then only the buffer and the error position change).");
        for (int i = 0; i < wrong.length; i++) {
            MarkStacks marks = State.filled();
            marks.load(0);
            int code = Check.load(marks, wrong[i]);
            int position = marks.errorPosition();
            MarkStacks other = State.filled();
            other.load(0);
            s.due("load", -11 - i, () -> code);
            s.text("the state", State.of(other), State.of(marks).replaceFirst("error at " + position, "error at 0"));
        }
        s.says("Promise 3", "if length is negative or greater than the number of bytes in the buffer (nothing changes)");
        int[] lengths = {-1, Integer.MIN_VALUE, 21, 901, Integer.MAX_VALUE};
        for (int length : lengths) {
            MarkStacks marks = State.filled();
            s.illegal("load(" + length + ") of 20 bytes", () -> marks.load(length));
            s.due("the query in the buffer", 1, () -> marks.query(18));
            MarkStacks again = State.filled();
            s.illegal("load(" + length + ")", () -> again.load(length));
            s.text("the state", State.of(State.filled()), State.of(again));
        }
        s.due("load of all 20 bytes", 0, () -> {
            MarkStacks marks = new MarkStacks();
            Check.feed(marks, "line;");
            return marks.load(20);
        });
    }

    private void errorPosition() {
        s.says("Promise 4", "Returns the position of the error of the most recent call of load or query that read the "
                + "buffer;");
        MarkStacks marks = new MarkStacks();
        Check.load(marks, "  linee;");
        s.due("behind a load", 2, marks::errorPosition);
        Check.query(marks, "many place =");
        s.due("behind a query", 12, marks::errorPosition);
        Check.load(marks, "");
        s.due("behind a load of nothing", 0, marks::errorPosition);
        Check.query(marks, " many");
        s.due("behind a query again", 5, marks::errorPosition);
        Check.feed(marks, "line;");
        s.illegal("a load that does not read", () -> marks.load(21));
        s.illegal("a query that does not read", () -> marks.query(21));
        s.due("behind both", 5, marks::errorPosition);
        s.says("Promise 4", "NONE if that call had no error, or there was no such call.");
        marks.load(5);
        s.due("behind a load without an error", -1, marks::errorPosition);
        Check.load(marks, ";");
        s.due("behind a load with an error", 0, marks::errorPosition);
        s.due("a query without an error", 0, () -> Check.query(marks, "many 1=1"));
        s.due("behind it", -1, marks::errorPosition);
        MarkStacks fresh = new MarkStacks();
        s.due("of a new object", -1, fresh::errorPosition);
        s.illegal("load(1)", () -> fresh.load(1));
        s.illegal("query(-1)", () -> fresh.query(-1));
        s.due("behind calls that did not read", -1, fresh::errorPosition);
    }

    private void tokens() {
        s.says("Input text", "The text comes from a byte buffer.");
        s.due("load of what was fed", 1, () -> Check.load(new MarkStacks(), BASE + "line;"));
        s.says("Input text", "Tokens: a word is a maximal run of the letters a to z;");
        s.right("base a 1 1 1 1;base z 1 1 1 1;base az 1 1 1 1;line a z az;");
        s.wrong(1, "", "linea;");
        s.wrong(1, BASE, "linea;");
        s.wrong(4, BASE + "line ", "aa;");
        s.right("base a1 1 1 1;line a;");
        s.says("Input text", "a number is a maximal run of digits (leading zeros are allowed);");
        s.right("base a 00000000000000000000000000000001 0020 000 00000000000000000;line;hand 00;");
        s.wrong(2, "base a ", "111 1 1;line;");
        s.wrong(1, "base a 1 1 1 ", ";line;");
        s.right("base a 19 10 10 09;line;");
        s.says("Input text", "is a token.");
        s.wrong(1, "", ";line;");
        s.wrong(1, "line;", ";");
        s.says("Input text", "The bytes 32 and 10 separate tokens and are otherwise ignored.");
        s.right("\n base\na\n1 1  \n 1 1 \n;\n line \n a \n ; \n");
        s.wrong(1, "", "li ne;");
        s.wrong(1, "base a 1 1 1 1 ", "0;line;");
        s.load(" \n ", 1, 3);
        s.right("base a 1 1 1 1;line a\na;");
    }

    private void otherBytes() {
        s.says("Input text", "Every other byte is an invalid token.");
        for (int b = 0; b < 256; b++) {
            boolean letter = b >= 'a' && b <= 'z';
            boolean ignored = b == ' ' || b == '\n';
            if (!letter && !ignored && b != ';') {
                s.wrong(1, "line ", (char) b + ";");
                s.wrong(1, "line;", String.valueOf((char) b));
                s.wrong(1, "", (char) b + "line;");
            }
        }
        s.wrong(1, "base a 1 ", "-1 1 1 1;line;");
        s.wrong(1, BASE + "line a", "\ta;");
        s.wrong(1, BASE + "line a", "\ra;");
    }

    private void grammar() {
        s.says("Input text", "text: sign* line line* ['hand' LINE ';']");
        s.right("line;");
        s.right("line;line;line;line;hand 3;");
        s.right(BOTH + "line;hand 0;");
        s.load("", 1, 0);
        s.load(BASE, 1, 15);
        s.wrong(1, "", "hand 0;");
        s.wrong(1, "line;", BASE);
        s.wrong(1, "line;", "pair p a m;");
        s.wrong(1, "line;hand 0;", "line;");
        s.wrong(1, "line;hand 0;", "hand 0;");
        s.wrong(1, "line;hand 0;", "a");
        s.says("Input text", "sign: 'base' NAME width height upper lower ';' | 'mark' NAME class ('above' | 'below' | "
                + "'through') width size anchor ';' | 'pair' NAME SIGN SIGN ['spare'] ';'");
        s.right("mark m 1 above 1 1 1;mark n 2 below 1 1 1;mark o 3 through 1 1 1;base a 1 1 1 1;pair p a m;"
                + "pair q a n spare;line;");
        cut("base q 1 2 3 4 ; line ;");
        cut("mark q 1 above 2 3 4 ; line ;");
        cut("base a 1 1 1 1 ; mark m 1 below 1 1 1 ; pair p a m spare ; line p a m ; line ; hand 1 ;");
        leftOut();
        s.wrong(1, BOTH + "pair q a m spare ", "spare;line;");
        s.wrong(1, BOTH + "pair q a m ", "a;line;");
        s.wrong(1, BOTH + "pair q a ", ";line;");
        s.wrong(1, BOTH + "pair q a ", "spare;line;");
        s.wrong(1, BOTH + "pair ", ";line;");
        s.says("Input text", "line: 'line' SIGN* ';'");
        s.right(BOTH + "line;line a;line m a;");
        s.wrong(1, "line ", "0;");
        s.wrong(1, BASE + "line a ", "line;");
    }

    /** The text, cut behind each of its tokens but where a text may end. */
    private void cut(String text) {
        for (int end = text.indexOf(' '); end > 0; end = text.indexOf(' ', end + 1)) {
            String ahead = text.substring(0, end);
            boolean mayEnd = ahead.endsWith(";") && ahead.matches(".*line[^;]*;");
            s.load(ahead, mayEnd ? 0 : 1, mayEnd ? -1 : end);
        }
    }

    /** One token is left out, so that the next one stands in its place. */
    private void leftOut() {
        s.wrong(1, "", "q 1 2 3 4;line;");
        s.wrong(1, "base ", "1 2 3 4;line;");
        s.wrong(1, "base q 1 2 3", ";line;");
        s.wrong(1, "base q 1 2 3 4 ", "line;");
        s.wrong(1, "mark ", "7 above 1 2 3;line;");
        s.wrong(1, "mark q ", "above 1 2 3;line;");
        s.wrong(1, "mark q 7 ", "1 2 3;line;");
        s.wrong(1, "mark q 7 above 1 2", ";line;");
        s.wrong(1, "mark q 7 above 1 2 3 ", "line;");
        s.wrong(1, BOTH + "pair p a m ", "line;");
        s.wrong(1, BOTH + "pair p a m spare ", "line;");
    }

    private void names() {
        s.says("Input text", "Grammar (quoted = literal, * = any number of times, brackets = optional, | = or;");
        s.right(BOTH + "pair p a m;pair q p m spare;line;line;");
        s.says("Input text", "A NAME is a word of 1 to 4 letters that is not quoted above.");
        for (String name : new String[] {"a", "zz", "abc", "abcd", "han", "lin", "mar", "spar", "many", "not", "or", "and",
            "kind", "sign", "text", "name", "lane", "lind", "linf", "ase", "aine", "pais"}) {
            s.right("base " + name + " 1 1 1 1;line " + name + ";");
        }
        for (String name : new String[] {"abcde", "above", "below", "through", "spare", "base", "mark", "pair", "line",
            "hand", "1", ";", "abcdefghijklmnopqrstuvwxyz"}) {
            s.wrong(1, "base ", name + " 1 1 1 1;line;");
            s.wrong(1, "mark ", name + " 1 above 1 1 1;line;");
            s.wrong(1, BOTH + "pair ", name + " a m;line;");
        }
        s.says("Input text", "A SIGN is such a word, the name of a sign;");
        for (String name : new String[] {"abcde", "spare", "base", "mark", "pair", "line", "hand", "1"}) {
            s.wrong(1, BOTH + "pair p ", name + " m;line;");
            s.wrong(1, BOTH + "pair p a ", name + ";line;");
            s.wrong(1, BOTH + "line a ", name + ";");
        }
        s.says("Input text", "a LINE is the number of a line.");
        for (int line = 0; line < 4; line++) {
            int hand = line;
            s.due("hand " + line, line, () -> Check.loaded("line;line;line;line;hand " + hand + ";").size(6));
        }
        s.wrong(1, BASE + "line a;hand ", "a;");
    }

    private void firstError() {
        s.says("Input text", "Error codes.");
        s.right("line;");
        s.says("Input text", "The first error along the text is reported, at the first byte of its token;");
        s.wrong(2, "base a ", "21 99 99 99;line x;");
        s.wrong(1, "base a 1 1 1 1 ", "?base a 1 1 1 1;line;hand 9;");
        s.wrong(4, "line ", "abcd;line;line;line;line;hand 7;");
        s.wrong(2, "line;hand ", "0000000010");
        s.wrong(1, "base ", "abcde 21 1 1 1;line;");
        s.wrong(1, "line", "?");
        s.says("Input text", "if several codes apply to one token, the smallest one.");
        String full = BOTH + "line" + Texts.times(60, " a") + " ";
        s.wrong(4, full, "x;");
        s.wrong(1, full, "xxxxx;");
        s.wrong(1, full, "spare;");
        s.wrong(1, full, "7;");
        s.wrong(1, full, "?;");
        s.wrong(5, full, "m;");
        s.wrong(1, BASE + "pair ", "line a a;line;");
        s.wrong(4, chain(5) + "pair q e ", "e;line;");
    }

    /** A base a, a mark m, and composed signs b, c, .. whose expansions have 2, 3, .. signs. */
    private static String chain(int pairs) {
        StringBuilder text = new StringBuilder(BOTH);
        for (char name = 'b'; name < 'b' + pairs; name++) {
            text.append("pair ").append(name).append(' ').append((char) (name - 1)).append(" m;");
        }
        return text.toString();
    }

    private static String bases(int count) {
        StringBuilder text = new StringBuilder();
        for (int i = 0; i < count; i++) {
            text.append("base ").append((char) ('p' + i / 20)).append((char) ('a' + i % 20)).append(" 1 1 1 1;");
        }
        return text.toString();
    }

    private void codeOne() {
        s.says("Input text", "1 The token is invalid or not allowed here,");
        s.wrong(1, "line;", "?");
        s.wrong(1, "base a 1 1 ", "b 1;line;");
        s.wrong(1, "base a 1 1 1 1 ", "21;line;");
        s.wrong(1, "mark a 1 ", "across 1 1 1;line;");
        s.wrong(1, "mark a 1 ", "abov 1 1 1;line;");
        s.wrong(1, "line;hand ", ";");
        s.wrong(1, "line;hand 0 ", "0;");
        s.says("Input text", "or the text ends too early (the position is then the length of the text).");
        s.load("", 1, 0);
        s.load("   ", 1, 3);
        s.load("line", 1, 4);
        s.load("line \n", 1, 6);
        s.load("line;hand", 1, 9);
        s.load("line;hand 0 ", 1, 12);
        s.load(BOTH, 1, BOTH.length());
        s.load(bases(40), 1, bases(40).length());
    }

    private void codeTwo() {
        s.says("Input text", "the ranges of numbers are those of the quantities):");
        s.right("base a 1 1 0 0;base b 20 20 20 20;mark m 1 above 1 1 0;mark n 60 above 9 9 9;line;");
        s.says("Input text", "2 A number that is out of range, a LINE that there is not.");
        String[] tooGreat = {"21", "99", "021", "2147483648", "4294967297", "18446744073709551617",
            "100000000000000000000000000000001"};
        for (String number : tooGreat) {
            s.wrong(2, "base a ", number + " 1 1 1;line;");
            s.wrong(2, "base a 1 ", number + " 1 1;line;");
            s.wrong(2, "base a 1 1 ", number + " 1;line;");
            s.wrong(2, "base a 1 1 1 ", number + ";line;");
            s.wrong(2, "mark a 1 above ", number + " 1 1;line;");
            s.wrong(2, "mark a 1 above 1 ", number + " 1;line;");
            s.wrong(2, "mark a 1 above 1 1 ", number + ";line;");
            s.wrong(2, "line;hand ", number + ";");
        }
        s.wrong(2, "base a ", "0 1 1 1;line;");
        s.wrong(2, "base a 1 ", "0 1 1;line;");
        s.wrong(2, "mark a ", "0 above 1 1 1;line;");
        s.wrong(2, "mark a ", "61 above 1 1 1;line;");
        s.wrong(2, "mark a ", "4294967297 above 1 1 1;line;");
        s.wrong(2, "mark a 1 above ", "0 1 1;line;");
        s.wrong(2, "mark a 1 above 1 ", "0 1;line;");
        s.wrong(2, "mark a 1 above ", "10 1 1;line;");
        s.wrong(2, "mark a 1 above 1 ", "10 1;line;");
        s.wrong(2, "mark a 1 above 1 1 ", "10;line;");
        for (int lines = 1; lines <= 4; lines++) {
            s.wrong(2, Texts.times(lines, "line;") + "hand ", lines + ";");
            s.right(Texts.times(lines, "line;") + "hand " + (lines - 1) + ";");
        }
    }

    private void codeThree() {
        s.says("Input text", "3 A NAME that an earlier sign has;");
        s.wrong(3, BOTH + "base ", "a 1 1 1 1;line;");
        s.wrong(3, BOTH + "base ", "m 1 1 1 1;line;");
        s.wrong(3, BOTH + "mark ", "a 7 above 1 1 1;line;");
        s.wrong(3, BOTH + "mark ", "m 7 above 1 1 1;line;");
        s.wrong(3, BOTH + "pair ", "a a m;line;");
        s.wrong(3, BOTH + "pair ", "m a m;line;");
        s.wrong(3, BOTH + "pair p a m;base ", "p 1 1 1 1;line;");
        s.wrong(3, bases(39) + "base ", "pa 1 1 1 1;line;");
        s.right("base a 1 1 1 1;base aa 1 1 1 1;base aaa 1 1 1 1;base aaaa 1 1 1 1;base ab 1 1 1 1;base ba 1 1 1 1;line;");
        s.says("Input text", "the second SIGN of a pair that another composed sign has, with the same first one.");
        s.wrong(3, BOTH + "pair p a m;pair q a ", "m;line;");
        s.wrong(3, BOTH + "pair p a m spare;pair q a ", "m;line;");
        s.wrong(3, BOTH + "pair p a m;pair q p m;pair r p ", "m spare;line;");
        s.right(BOTH + "mark n 7 above 1 1 1;base b 1 1 1 1;pair p a m;pair q a n;pair r b m;pair t p m;line;");
    }

    private void codeFour() {
        s.says("Input text", "4 A SIGN whose name no sign has;");
        s.wrong(4, BOTH + "pair p ", "b m;line;");
        s.wrong(4, BOTH + "pair p ", "p m;line;");
        s.wrong(4, BOTH + "pair p a ", "n;line;");
        s.wrong(4, BOTH + "pair p ", "q m;pair q a m;line;");
        s.wrong(4, BOTH + "line a ", "aa;");
        s.wrong(4, "line ", "a;");
        s.says("Input text", "a first SIGN of a pair that is a mark, a second one that is none;");
        s.wrong(4, BOTH + "pair p ", "m m;line;");
        s.wrong(4, BOTH + "pair p a ", "a;line;");
        s.wrong(4, BOTH + "pair p a m;pair q a ", "p;line;");
        s.wrong(4, BOTH + "pair p a ", "p;line;");
        s.says("Input text", "the side of a mark that is not that of an earlier mark of the same class.");
        String[] sides = {"above", "below", "through"};
        for (String side : sides) {
            for (String other : sides) {
                String ahead = "mark m 60 " + side + " 1 1 1;mark n 60 ";
                s.load(ahead + other + " 1 1 1;line;", side.equals(other) ? 0 : 4,
                        side.equals(other) ? -1 : ahead.length());
                s.right("mark m 60 " + side + " 1 1 1;mark n 59 " + other + " 1 1 1;line;");
            }
        }
    }

    private void codeFive() {
        s.says("Input text", "5 The keyword of the 41st sign, of the 5th line;");
        s.right(bases(40) + "line;line;line;line;");
        s.wrong(5, bases(40), "base zz 1 1 1 1;line;");
        s.wrong(5, bases(40), "mark zz;line;");
        s.wrong(5, bases(40), "pair");
        s.wrong(1, bases(40), "hand");
        s.wrong(1, bases(40), ";");
        s.wrong(5, "line;line;line;line;", "line");
        s.wrong(5, bases(40) + "line;line;line;line;", "line;");
        s.wrong(1, "line;line;line;line;", "base a 1 1 1 1;");
        s.says("Input text", "a first SIGN of a pair whose expansion has 6 signs;");
        s.right(chain(5) + "line f;");
        s.wrong(5, chain(5) + "pair g ", "f m;line;");
        s.wrong(5, chain(5) + "pair g ", "f f;line;");
        s.says("Input text", "the 61st SIGN of a line.");
        s.right(BASE + "line" + Texts.times(60, " a") + ";");
        s.wrong(5, BASE + "line" + Texts.times(60, " a") + " ", "a;");
        s.wrong(5, BASE + "line" + Texts.times(60, " a") + ";line" + Texts.times(60, " a") + " ", "a");
        s.right(BASE + Texts.times(4, "line" + Texts.times(60, " a") + ";"));
    }
}
