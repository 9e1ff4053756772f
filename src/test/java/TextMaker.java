import java.util.ArrayList;
import java.util.List;
import java.util.Random;

/** Makes texts and queries, most of them without an error, some with a token put wrong. */
final class TextMaker {
    private final Random random;
    private final List<String> tokens = new ArrayList<>();
    private final List<String> starters = new ArrayList<>();
    private final List<String> marks = new ArrayList<>();
    private final List<Integer> depths = new ArrayList<>();

    TextMaker(Random itsRandom) {
        random = itsRandom;
    }

    private void add(Object... more) {
        for (Object token : more) {
            tokens.add(String.valueOf(token));
        }
    }

    private int upTo(int least, int most) {
        return least + random.nextInt(most - least + 1);
    }

    String text() {
        int bases = upTo(0, 3);
        int markCount = upTo(0, 5);
        boolean crowded = random.nextInt(15) == 0;
        for (int i = 0; i < bases; i++) {
            String name = name();
            add("base", name, upTo(1, 20), upTo(1, 20), upTo(0, 20), upTo(0, 20), ";");
            starters.add(name);
            depths.add(1);
        }
        for (int i = 0; i < markCount; i++) {
            int cls = upTo(1, random.nextBoolean() ? 6 : 60);
            String name = name();
            add("mark", name, cls, List.of("above", "below", "through").get(cls % 3), upTo(1, 9), upTo(1, 9),
                    upTo(0, 9), ";");
            marks.add(name);
        }
        addPairs(crowded ? 45 : upTo(0, 10));
        int lines = upTo(1, random.nextInt(10) == 0 ? 5 : 4);
        for (int i = 0; i < lines; i++) {
            addLine();
        }
        if (random.nextInt(3) == 0) {
            add("hand", upTo(0, lines - (random.nextInt(8) == 0 ? 0 : 1)), ";");
        }
        return random.nextInt(4) == 0 ? spoiled() : joined();
    }

    private void addPairs(int count) {
        List<String> made = new ArrayList<>();
        for (int i = 0; i < count && !starters.isEmpty() && !marks.isEmpty(); i++) {
            int first = random.nextInt(starters.size());
            String second = marks.get(random.nextInt(marks.size()));
            String parts = starters.get(first) + " " + second;
            boolean fits = depths.get(first) < 6 && !made.contains(parts);
            if (fits || random.nextInt(200) == 0) {
                String name = name();
                add("pair", name, starters.get(first), second);
                if (random.nextInt(4) == 0) {
                    add("spare");
                }
                add(";");
                made.add(parts);
                starters.add(name);
                depths.add(depths.get(first) + 1);
            }
        }
    }

    private void addLine() {
        add("line");
        int most = random.nextInt(12) == 0 ? 64 : random.nextInt(3) == 0 ? 30 : 10;
        int signs = random.nextInt(5) == 0 ? most : upTo(0, most);
        boolean heavy = random.nextInt(3) == 0;
        for (int i = 0; i < signs; i++) {
            boolean mark = random.nextInt(10) < (heavy ? 9 : 5);
            List<String> from = mark && !marks.isEmpty() ? marks : starters;
            if (!from.isEmpty()) {
                add(from.get(random.nextInt(from.size())));
            }
        }
        add(";");
    }

    private String name() {
        for (int tries = 0; tries < 50; tries++) {
            StringBuilder name = new StringBuilder();
            int letters = random.nextInt(6) == 0 ? upTo(1, 4) : upTo(1, 2);
            for (int i = 0; i < letters; i++) {
                name.append((char) ('a' + random.nextInt(26)));
            }
            boolean known = starters.contains(name.toString()) || marks.contains(name.toString());
            if (!known || random.nextInt(100) == 0) {
                return name.toString();
            }
        }
        return "zz";
    }

    String query() {
        add(random.nextInt(3) == 0 ? "first" : "many");
        addTest(0);
        return random.nextInt(4) == 0 ? spoiled() : joined();
    }

    private void addTest(int depth) {
        int factors = depth > 3 ? 1 : upTo(1, 2);
        for (int i = 0; i < factors; i++) {
            if (i > 0) {
                add(random.nextBoolean() ? "and" : "or");
            }
            addFactor(depth);
        }
    }

    private void addFactor(int depth) {
        int kind = random.nextInt(8);
        if (kind < 2 && depth < 7) {
            add("not");
            addFactor(depth + 1);
        } else if (kind == 2 && depth < 7) {
            add("(");
            addTest(depth + 1);
            add(")");
        } else if (kind == 3 && depth == 0) {
            for (int i = random.nextInt(7); i >= 0; i--) {
                add("not");
            }
            addValue();
            add("=");
            addValue();
        } else {
            addValue();
            add(List.of("<", "=", ">").get(random.nextInt(3)));
            addValue();
        }
    }

    private void addValue() {
        int kind = random.nextInt(9);
        if (kind < 6) {
            add(List.of("place", "sign", "kind", "class", "parts", "cluster").get(kind));
        } else {
            add(kind == 8 ? upTo(0, 60) : upTo(0, 4));
        }
    }

    private static final List<String> ODD = List.of("base", "mark", "pair", "line", "hand", "spare", "above", "below",
            "through", ";", "0", "1", "21", "61", "007", "99999999999999999999", "10000", "9999", "abcde", "a", "zz",
            "(", ")", "<", "=", ">", "not", "and", "or", "many", "first", "place", "A", "\t", "\u00e9", "\u0000", "-");

    private String spoiled() {
        int changes = upTo(1, 2);
        for (int i = 0; i < changes; i++) {
            int at = random.nextInt(tokens.size());
            int kind = random.nextInt(4);
            String token = random.nextInt(3) == 0 ? tokens.get(random.nextInt(tokens.size()))
                    : ODD.get(random.nextInt(ODD.size()));
            if (kind == 0 && tokens.size() > 1) {
                tokens.remove(at);
            } else if (kind == 1) {
                tokens.add(at, token);
            } else if (kind == 2) {
                tokens.set(at, token);
            } else {
                tokens.subList(at, tokens.size()).clear();
                tokens.add(token);
            }
        }
        return joined();
    }

    /** Leaves out spaces where the tokens stay apart without them. */
    private String joined() {
        StringBuilder text = new StringBuilder();
        for (String token : tokens) {
            boolean bothWords = text.length() > 0 && sort(text.charAt(text.length() - 1)) == sort(token.charAt(0))
                    && sort(token.charAt(0)) != 2;
            if (bothWords) {
                text.append(random.nextInt(5) == 0 ? "\n" : " ");
            } else if (random.nextInt(8) == 0) {
                text.append("  ");
            }
            text.append(token);
        }
        if (random.nextInt(4) == 0) {
            text.append(" \n");
        }
        return text.toString();
    }

    private static int sort(char letter) {
        return letter >= 'a' && letter <= 'z' ? 0 : letter >= '0' && letter <= '9' ? 1 : 2;
    }
}
