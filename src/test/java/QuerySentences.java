/** The sentences on queries: Queries, promise 45. */
final class QuerySentences {
    /** The clusters: st; a do ce; a ce ac; e, e ce ac. */
    private static final String LINE = "line st a do ce ab e ec ac;line a;line;";

    private final Sentences s;
    private MarkStacks marks;

    private QuerySentences(Sentences sentences) {
        s = sentences;
    }

    /** An object is used for at most 512 calls. */
    private void renew() {
        marks = Check.loaded(Texts.SIGNS + LINE);
    }

    static void check(Sentences sentences) {
        QuerySentences queries = new QuerySentences(sentences);
        queries.tokens();
        queries.grammar();
        queries.tests();
        queries.values();
        queries.codes();
        queries.open();
        queries.closed();
        queries.evaluated();
        queries.answers();
        queries.bufferEmpty();
        queries.lengths();
        queries.lengthsRefused();
    }

    private void due(String text, long due) {
        s.due(text, due, () -> Check.query(marks, text));
        s.due("the position of the error of " + text, -1, marks::errorPosition);
    }

    private void wrong(int code, String ahead, String rest) {
        s.due(ahead + rest, -1000000000 - code, () -> Check.query(marks, ahead + rest));
        s.due("the position of the error of " + ahead + rest, ahead.length(), marks::errorPosition);
    }

    private void tokens() {
        renew();
        s.says("Queries", "each of the bytes ( ) < = > is a token, too.");
        due("many(place<1)or(place=2)or(place>6)", 3);
        due("many((place=1))", 1);
        wrong(1, "many place <", "= 1");
        wrong(1, "many place =", "= 1");
        wrong(1, "many place >", "< 1");
        s.says("Queries", "The text of a query has at most 200 bytes and the tokens above;");
        String longest = "many 1 = 1" + Texts.times(190, " ");
        due(longest, 8);
        due("many place\n=\n1", 1);
        due("many place = 0000000000000000000000000000000000000000000000000000000000000000000000000001", 1);
        for (int b = 0; b < 256; b++) {
            boolean known = b >= 'a' && b <= 'z' || b >= '0' && b <= '9' || b == ' ' || b == '\n';
            if (!known) {
                renew();
                wrong(1, "many place = 1 ", String.valueOf((char) b));
            }
        }
    }

    private void grammar() {
        renew();
        s.says("Queries", "query: ('many' | 'first') test");
        due("many place = 1", 1);
        due("first place = 1", 1);
        wrong(1, "", "place = 1");
        wrong(1, "", "every place = 1");
        wrong(1, "", "1 = 1");
        wrong(1, "many ", "many 1 = 1");
        wrong(1, "many 1 = 1 ", "many 1 = 1");
        wrong(1, "many 1 = 1 ", ";");
        wrong(1, "", ";");
        String[] parts = {"many", " not", " (", " place", " =", " 1", " or", " kind", " <", " class", " )", " and", " 1",
            " >", " 2"};
        StringBuilder text = new StringBuilder();
        for (int i = 0; i < parts.length; i++) {
            if (i == 11) {
                due(text.toString(), 4);
            } else {
                wrong(1, text.toString(), "");
            }
            text.append(parts[i]);
        }
        due(text.toString(), 0);
    }

    private void tests() {
        renew();
        s.says("Queries", "test: conjunction ('or' conjunction)*. conjunction: factor ('and' factor)*. factor: 'not' factor | "
                + "'(' test ')' | value ('<' | '=' | '>') value.");
        due("many place = 1 or place = 2 and place = 3", 1);
        due("many place = 3 and place = 2 or place = 1", 1);
        due("many (place = 1 or place = 2) and place = 2", 1);
        due("many place = 2 and (place = 1 or place = 2)", 1);
        due("many not place = 1 and place < 3", 2);
        due("many not (place = 1 and place < 3)", 7);
        due("many not place = 1 or place = 1", 8);
        due("many not not place = 1", 1);
        due("many place < 3", 3);
        due("many place = 3", 1);
        due("many place > 3", 4);
        due("many 3 < place", 4);
        due("many 1<2or 1<2or 1<2or 1<2or 1<2or 1<2or 1<2or 1<2or 1<2or 1<2or 1<2or 1<2or 1<2or 1<2or 1<2or 1<2or 1<2or 1<2",
                8);
        due("many 1<2and 1<2and 1<2and 1<2and 1<2and 1<2and 1<2and 1<2and 1<2and 1<2and 1<2and 1<2and 1<2and 1<1", 0);
        wrong(1, "many (", ")");
        wrong(1, "many (place = 1", "");
        wrong(1, "many place = 1", ")");
        wrong(1, "many (place = 1 ", "place = 2)");
        wrong(1, "many place = 1 ", "not place = 2");
        wrong(1, "many place = 1 or ", "or place = 2");
        wrong(1, "many place = 1 and ", "or place = 2");
        wrong(1, "many ", "and place = 2");
        wrong(1, "many not ", "or place = 2");
        wrong(1, "many place = ", "(1)");
        wrong(1, "many place ", "and place = 2");
        wrong(1, "many (place", ") = 1");
    }

    private void property(String property, int... values) {
        renew();
        for (int place = 0; place < values.length; place++) {
            due("many place=" + place + " and " + property + "=" + values[place], 1);
        }
        due("many " + property + "=" + property, values.length);
    }

    private void values() {
        renew();
        s.says("Queries", "value: a number (0 to 9999), or one of these properties of a place of the line at hand:");
        due("many 0 < 1", 8);
        due("many 9999 > 9998", 8);
        due("many 9999 = 9999", 8);
        due("many place < 9999", 8);
        wrong(2, "many place < ", "10000");
        wrong(2, "many ", "10000 > place");
        s.says("Queries", "'place' (its number)");
        property("place", 0, 1, 2, 3, 4, 5, 6, 7);
        s.says("Queries", "'sign' (the number of its sign)");
        property("sign", 5, 0, 3, 4, 7, 1, 8, 2);
        s.says("Queries", "'kind' (of its sign: 0 a base, 1 a mark, 2 composed)");
        property("kind", 1, 0, 1, 1, 2, 0, 2, 1);
        s.says("Queries", "'class' (of its sign)");
        property("class", 1, 0, 10, 5, 0, 0, 0, 10);
        s.says("Queries", "'parts' (the signs in the expansion of its sign)");
        property("parts", 1, 1, 1, 1, 3, 1, 2, 1);
        s.says("Queries", "'cluster' (the cluster in which the first sign of its expansion is)");
        property("cluster", 0, 1, 1, 1, 2, 3, 4, 4);
        for (String word : new String[] {"places", "size", "spare", "mark", "plac", "a", "first", "many", "or"}) {
            s.due("many " + word + " = 1", -1000000001, () -> Check.query(marks, "many " + word + " = 1"));
            s.due("many 1 = " + word, -1000000001, () -> Check.query(marks, "many 1 = " + word));
        }
    }

    private void codes() {
        renew();
        s.says("Queries", "Error codes are 1 and 2 as above,");
        wrong(1, "many place = ", "what");
        wrong(1, "many place = ", "-1");
        wrong(1, "many place = 1 and", "");
        wrong(1, "many place ", "10000");
        for (String number : new String[] {"10000", "010000", "4294967296", "4294967297", "18446744073709551617",
            "99999999999999999999999999999999"}) {
            wrong(2, "many place = ", number);
            wrong(2, "many ", number + " = place");
        }
        wrong(2, "many 1 = ", "10000 what");
        wrong(1, "many ", "what = 10000");
    }

    private void open() {
        renew();
        s.says("Queries", "and 3 for a 'not' or '(' that would be the seventh one open at the same time.");
        due("many not not not not not not place = 1", 1);
        due("many ((((((place = 1))))))", 1);
        due("many not(not(not(place = 1)))", 7);
        due("many (not(not(not place = 1)))", 7);
        wrong(3, "many not not not not not not ", "not place = 1");
        wrong(3, "many ((((((", "(place = 1)))))))");
        wrong(3, "many not(not(not(", "not place = 1)))");
        wrong(3, "many not(not(not(", "(place = 1))))");
        wrong(3, "many not((not((", "(");
        wrong(3, "many not not not not not not ", "not");
        wrong(3, "many ((((((1 = 1 and ", "(2 = 2)))))))");
        wrong(3, "many ((((((1 = 1 or ", "not 2 = 2))))))");
        wrong(1, "many ((((((1 = 1 ", "not 2 = 2))))))");
        wrong(1, "many ((((((", ")))))))");
    }

    private void closed() {
        renew();
        s.says("Queries", "A 'not' is open until the end of its factor.");
        due("many not 1=2 and not 1=2 and not 1=2 and not 1=2 and not 1=2 and not 1=2 and not 1=2 and not 1=2", 8);
        due("many not 1=2 or not 1=2 or not 1=2 or not 1=2 or not 1=2 or not 1=2 or not 1=2", 8);
        due("many not not not not not not 1=2 or not not not not not not 1=1", 8);
        due("many not(not(not(1 = 2) and not(1 = 2)) and not 1 = 2)", 8);
        due("many (1=1) and (1=1) and (1=1) and (1=1) and (1=1) and (1=1) and (1=1)", 8);
        due("many (((((1=1) and (1=1) and not 1=2))))", 8);
        due("many not(not((1=1)) and (not 1=2))", 8);
        wrong(3, "many not not not not not(1=1 and ", "not 1=1)");
        wrong(3, "many not not not not(not 1=1 and not ", "not 1=1)");
    }

    private void evaluated() {
        renew();
        s.says("Promise 45", "Reads the first bytes of the buffer as a query and evaluates it for every place of the line at "
                + "hand in ascending order.");
        due("many 1 = 1", 8);
        due("first place > 3", 4);
        marks.hand(1);
        due("many 1 = 1", 1);
        due("many sign = 0", 1);
        MarkStacks lines = Check.loaded(Texts.SIGNS + "line st ac a;line a a a;");
        s.due("of the line 0", 2, () -> Check.query(lines, "many cluster = 0"));
        lines.hand(1);
        s.due("of the line 1", 1, () -> Check.query(lines, "many cluster = 0"));
        s.due("of the line 1", 2, () -> Check.query(lines, "first cluster = 2"));
        marks.hand(2);
        due("many 1 = 1", 0);
        due("many not 1 = 1", 0);
        wrong(1, "many 1 =", "");
        marks.hand(0);
        MarkStacks full = Texts.with(Texts.times(60, " a"));
        s.due("sixty places", 60, () -> Check.query(full, "many 1 = 1"));
        s.due("none of sixty places", 0, () -> Check.query(full, "many not 1 = 1"));
        s.due("the last of sixty places", 59, () -> Check.query(full, "first place > 58"));
        s.due("not the first of sixty places", 59, () -> Check.query(full, "many not place = 0"));
    }

    private void answers() {
        renew();
        s.says("Promise 45", "Returns for 'many' the number of places for which the test holds;");
        due("many kind = 1", 4);
        due("many kind = 3", 0);
        due("many kind < 3", 8);
        s.says("Promise 45", "for 'first' the smallest such place, or NONE;");
        due("first kind < 3", 0);
        due("first kind = 2", 4);
        due("first place > 6", 7);
        due("first kind = 3", -1);
        MarkStacks empty = new MarkStacks();
        s.due("without places", -1, () -> Check.query(empty, "first 1 = 1"));
        s.says("Promise 45", "HIDDEN minus the error code if the text has an error.");
        s.due("code 1", -1000000001, () -> Check.query(marks, "many"));
        s.due("code 2", -1000000002, () -> Check.query(marks, "many 10000 = 1"));
        s.due("code 3", -1000000003, () -> Check.query(marks, "many ((((((("));
    }

    private void bufferEmpty() {
        renew();
        s.says("Promise 45", "The buffer is empty afterwards, also after an error.");
        due("many 1 = 1", 8);
        s.illegal("query(1)", () -> marks.query(1));
        s.due("feed", 20, () -> Check.feed(marks, "many"));
        s.due("an error", -1000000001, () -> marks.query(4));
        s.illegal("query(1) behind an error", () -> marks.query(1));
        s.due("feed behind an error", 20, () -> Check.feed(marks, "many 1 = 1"));
        s.due("query(0)", -1000000001, () -> marks.query(0));
        s.due("the position of its error", 0, marks::errorPosition);
        s.illegal("load(1) behind query(0)", () -> marks.load(1));
    }

    private void lengths() {
        renew();
        s.says("Promise 45", "`length`: number of bytes to read, at most 200");
        Check.feed(marks, "many place = 1 or place = 2");
        s.due("query(14)", 1, () -> marks.query(14));
        Check.feed(marks, "many place = 12");
        s.due("query(14), which cuts a number", 1, () -> marks.query(14));
        Check.feed(marks, "many place = 1" + Texts.times(186, " ") + "?");
        s.due("query(200)", 1, () -> marks.query(200));
        String full = "many place=1" + Texts.times(23, "or 1=2  ") + "or 2=1";
        Check.feed(marks, full.substring(0, 200));
        s.due("200 bytes with tokens to the end", -1000000001, () -> marks.query(200));
        s.due("the position of the error", 200, marks::errorPosition);
    }

    private void lengthsRefused() {
        renew();
        s.says("Promise 45", "if length is negative, greater than 200, or greater than the number of bytes in the buffer "
                + "(nothing changes)");
        for (int length : new int[] {-1, 21, 201, Integer.MIN_VALUE, Integer.MAX_VALUE}) {
            MarkStacks filled = State.filled();
            s.illegal("query(" + length + ") of 20 bytes", () -> filled.query(length));
            s.due("the query in the buffer", 1, () -> filled.query(18));
            MarkStacks again = State.filled();
            s.illegal("query(" + length + ")", () -> again.query(length));
            s.text("the state", State.of(State.filled()), State.of(again));
        }
        Check.feed(marks, "many 1 = 1" + Texts.times(191, " "));
        s.illegal("query(201) of 220 bytes", () -> marks.query(201));
        s.illegal("query(220) of 220 bytes", () -> marks.query(220));
        s.due("query(200) of 220 bytes", 8, () -> marks.query(200));
        Check.feed(marks, "many 1 = 1");
        s.due("query(20) of 20 bytes", 8, () -> marks.query(20));
    }
}
