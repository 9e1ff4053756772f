/** The text that most tests load. */
final class Texts {
    /** a 0, e 1, ac 2, do 3, ce 4, st 5, aa 6, ab 7, ec 8. */
    static final String SIGNS = "base a 10 12 5 4;base e 8 11 4 3;mark ac 10 above 4 2 2;mark do 10 above 2 3 1;"
            + "mark ce 5 below 3 3 1;mark st 1 through 6 1 3;pair aa a ac;pair ab aa ce spare;pair ec e ce;";

    static final String LINES = "line a do ce ac e ec;line e st ce;line;line ac aa ab st;hand 1;";

    /** Forty signs, most of them of another kind than the ones above, and four lines; every class is through. */
    static final String EARLIER = earlier();

    private static String earlier() {
        StringBuilder text = new StringBuilder("mark m 44 through 9 9 9;base b 20 20 20 20;");
        for (int i = 2; i < 40; i++) {
            String name = "" + (char) ('a' + i % 3) + (char) ('a' + i / 3);
            if (i == 2 || i % 3 == 1) {
                text.append("mark ").append(name).append(' ').append(i).append(" through 9 9 9;");
            } else if (i % 3 == 2) {
                text.append("base ").append(name).append(" 9 9 9 9;");
            } else {
                // Its second part is the mark ahead of the base ahead of it.
                String mark = i == 3 ? "m" : "b" + (char) ('a' + i / 3 - 1);
                text.append("pair ").append(name).append(" b ").append(mark).append(" spare;");
            }
        }
        return text + "line b m;line b m ab m;line b ab b ac m;line b m b m ab m;hand 3;";
    }

    private Texts() {
    }

    static MarkStacks usual() {
        return Check.loaded(SIGNS + LINES);
    }

    static MarkStacks with(String line) {
        return Check.loaded(SIGNS + "line " + line + ";");
    }

    static String times(int count, String text) {
        return text.repeat(count);
    }
}
