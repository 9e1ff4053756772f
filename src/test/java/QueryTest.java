/** Promise 45: queries. */
public final class QueryTest {
    private final Check check = new Check("QueryTest");
    private MarkStacks marks;

    public static void main(String[] args) {
        QueryTest test = new QueryTest();
        test.properties();
        test.comparisons();
        test.connectives();
        test.lines();
        test.lengths();
        test.syntaxErrors();
        test.rangeErrors();
        test.depthErrors();
        test.check.end();
    }

    /** An object is used for at most 512 calls. */
    private void renew() {
        marks = Check.loaded(Texts.SIGNS + "line st a do ce ab e ec ac;line a;line;");
    }

    private void due(String text, long due) {
        check.due("45: " + text, due, () -> Check.query(marks, text));
        check.due("4: errorPosition() of " + text, -1, marks::errorPosition);
    }

    private void error(String ahead, String rest, int code) {
        check.due("45: " + ahead + rest, -1000000000 - code, () -> Check.query(marks, ahead + rest));
        check.due("4: errorPosition() of " + ahead + rest, ahead.length(), marks::errorPosition);
    }

    /** The values of a property at all places of the line 0. */
    private void values(String property, int... values) {
        renew();
        for (int place = 0; place < values.length; place++) {
            due("many place=" + place + " and " + property + "=" + values[place], 1);
            due("first place=" + place + " and not " + property + "=" + values[place], -1);
        }
        due("many " + property + "=" + property, values.length);
    }

    private void properties() {
        renew();
        values("place", 0, 1, 2, 3, 4, 5, 6, 7);
        values("sign", 5, 0, 3, 4, 7, 1, 8, 2);
        values("kind", 1, 0, 1, 1, 2, 0, 2, 1);
        values("class", 1, 0, 10, 5, 0, 0, 0, 10);
        values("parts", 1, 1, 1, 1, 3, 1, 2, 1);
        values("cluster", 0, 1, 1, 1, 2, 3, 4, 4);
        due("many 3 = 3", 8);
        due("many 9999 > place", 8);
        due("many 007 = place", 1);
    }

    private void comparisons() {
        renew();
        due("many place < 3", 3);
        due("many place = 3", 1);
        due("many place > 3", 4);
        due("many 3 < place", 4);
        due("first place > 3", 4);
        due("first kind = 2", 4);
        due("first kind = 3", -1);
        due("first 1 = 1", 0);
        due("first place > 6", 7);
        due("many sign < place", 3);
    }

    private void connectives() {
        renew();
        due("many place = 1 or place = 2 and place = 3", 1);
        due("many place = 3 and place = 2 or place = 1", 1);
        due("many (place = 1 or place = 2) and place = 2", 1);
        due("many place = 2 and (place = 1 or place = 2)", 1);
        due("many not place = 1 and place < 3", 2);
        due("many not (place = 1 and place < 3)", 7);
        due("many not place = 1 or place = 1", 8);
        due("many not not place = 1", 1);
        due("many place=1 or place=2 or place=3 or 1=2 or place=5", 4);
        due("many place<7 and place>1 and not place=3 and kind=1", 1);
        due("many ((((((place = 1))))))", 1);
        due("many not(not(not(place<2)))", 6);
        due("many not not not not not not place = 1 or not place = 1", 8);
        due("many (1=1) and (1=1) and (1=1) and (1=1) and (1=1) and (1=1) and (1=1)", 8);
        due("many not 1=2 and not 1=2 and not 1=2 and not 1=2 and not 1=2 and not 1=2 and not 1=2", 8);
        due("many(place=1)or\nnot\nplace<7", 2);
        due("many place<1or 6<place", 2);
    }

    private void lines() {
        renew();
        marks.hand(1);
        due("many 1 = 1", 1);
        due("first cluster = 0", 0);
        marks.hand(2);
        due("many 1 = 1", 0);
        due("many not 1 = 1", 0);
        due("first 1 = 1", -1);
        error("many ", "", 1);
        marks.hand(0);
        MarkStacks full = Texts.with(Texts.times(60, " a"));
        check.due("45: sixty places", 60, () -> Check.query(full, "many not place > 59"));
        check.due("45: the last place", 59, () -> Check.query(full, "first place > 58"));
    }

    private void lengths() {
        renew();
        check.due("45: query(-1)", Check.ILLEGAL, () -> marks.query(-1));
        check.due("45: query(1) of an empty buffer", Check.ILLEGAL, () -> marks.query(1));
        check.due("45: query(0)", -1000000001, () -> marks.query(0));
        check.due("4: its position", 0, marks::errorPosition);
        String longest = "many 1 = 1" + Texts.times(190, " ");
        check.due("45: query(200)", 8, () -> Check.query(marks, longest));
        check.due("45: the buffer is empty", Check.ILLEGAL, () -> marks.query(1));
        Check.feed(marks, longest + "or 1 = 2");
        check.due("45: query(201)", Check.ILLEGAL, () -> marks.query(201));
        check.due("45: of the greatest number", Check.ILLEGAL, () -> marks.query(Integer.MAX_VALUE));
        check.due("45: the buffer stays", 240, () -> Check.feed(marks, " "));
        check.due("45: only so many bytes are read", 8, () -> marks.query(10));
        check.due("45: the buffer is empty behind it", 20, () -> Check.feed(marks, "many"));
        check.due("45: an error", -1000000001, () -> marks.query(20));
        check.due("45: the buffer is empty behind an error", 20, () -> Check.feed(marks, "many"));
        check.due("45: the rest", -1000000001, () -> marks.query(4));
        check.due("4: the end of the text", 4, marks::errorPosition);
        check.due("45: a query that throws", Check.ILLEGAL, () -> marks.query(4));
        check.due("4: the position stays", 4, marks::errorPosition);
        check.due("41: a query is no operation", 0, marks::undoCount);
    }

    private void syntaxErrors() {
        renew();
        error("", "place = 1", 1);
        error("", "much place = 1", 1);
        error("", "firsty place = 1", 1);
        error("many ", "many 1 = 1", 1);
        error("many place ", "1", 1);
        error("many place = ", "", 1);
        error("many place = 1 ", "1", 1);
        error("many place = 1 and", "", 1);
        error("many place = 1 ", "not place = 1", 1);
        error("many place = 1", ";", 1);
        error("many place = 1", ")", 1);
        error("many (place = 1", "", 1);
        error("many (place = 1 ", "place = 1)", 1);
        error("many (", ")", 1);
        error("many not ", "or place = 1", 1);
        error("many place =", "= 1", 1);
        error("many place <", "> 1", 1);
        error("many (place", ") = 1", 1);
        error("many ", "size = 1", 1);
        error("many ", "places = 1", 1);
        error("many place = ", "first", 1);
        error("many place = ", "-1", 1);
        error("many place = 1 ", "AND place = 2", 1);
        error("many place ", "! 1", 1);
        error("many place = ", "\u00e9", 1);
    }

    private void rangeErrors() {
        renew();
        error("many place = ", "10000", 2);
        error("many ", "10000 = place", 2);
        error("many place = ", "4294967296", 2);
        error("many place = ", "99999999999999999999 what", 2);
        error("many place ", "10000", 1);
        due("many place = 0009999", 0);
    }

    private void depthErrors() {
        renew();
        error("many not not not not not not ", "not 1 = 1", 3);
        error("many ((((((", "(1 = 1)))))))", 3);
        error("many not(not(not(", "not 1 = 1)))", 3);
        error("many not(not(not(", "(", 3);
        error("many (1 = 1) and not(((((", "not", 3);
        due("many not(not(not(1 = 2) and not(1 = 2)) and not 1 = 2)", 8);
        error("many not not not not not not place", "", 1);
    }
}
