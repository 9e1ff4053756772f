import java.util.ArrayList;
import java.util.Arrays;
import java.util.HashMap;
import java.util.HashSet;
import java.util.LinkedList;
import java.util.List;
import java.util.Map;
import java.util.NoSuchElementException;
import java.util.Set;
import java.util.function.IntPredicate;
import java.util.function.IntUnaryOperator;

/**
 * The document once more, word by word and without regard to cost: exchanges are made one by one,
 * orders are counted by trying them, every state is a copy. ModelTest holds the program against it.
 */
public final class Model {
    static final int NONE = -1;
    static final int HIDDEN = -1000000000;

    static final class TextError extends RuntimeException {
        private static final long serialVersionUID = 1;
        final int code;
        final int position;

        TextError(int itsCode, int itsPosition) {
            code = itsCode;
            position = itsPosition;
        }
    }

    record Told(int kind, String name, int cls, int side, int[] numbers, int first, int second, boolean spare) {
        Told withClass(int other) {
            return new Told(kind, name, other, side, numbers, first, second, spare);
        }

        Told withSpare(boolean other) {
            return new Told(kind, name, cls, side, numbers, first, second, other);
        }
    }

    record Box(int sign, int left, int right, int lower, int upper) {
    }

    record Token(String text, int position) {
        boolean isWord() {
            return !text.isEmpty() && Character.isLowerCase(text.charAt(0)) && text.charAt(0) < 128;
        }

        boolean isNumber() {
            return !text.isEmpty() && text.charAt(0) >= '0' && text.charAt(0) <= '9';
        }
    }

    static final class State {
        List<Told> signs = new ArrayList<>();
        List<List<Integer>> lines = new ArrayList<>();
        int hand = 0;

        State copy() {
            State copy = new State();
            copy.signs.addAll(signs);
            for (List<Integer> line : lines) {
                copy.lines.add(new ArrayList<>(line));
            }
            copy.hand = hand;
            return copy;
        }
    }

    private StringBuilder buffer = new StringBuilder();
    private State state = new State();
    private LinkedList<State> undos = new LinkedList<>();
    private State snapshot = null;
    private String text = "";
    private int errorAt = NONE;

    public Model() {
        state.lines.add(new ArrayList<>());
    }

    // ---- reading ----

    public int feed(int a, int b, int c, int d, int e) {
        if (buffer.length() + 20 > 900) {
            return NONE;
        }
        for (int word : new int[] {a, b, c, d, e}) {
            buffer.append((char) (word >>> 24)).append((char) (word >>> 16 & 255));
            buffer.append((char) (word >>> 8 & 255)).append((char) (word & 255));
        }
        return buffer.length();
    }

    private static List<Token> tokensOf(String source, String symbols) {
        List<Token> tokens = new ArrayList<>();
        java.util.regex.Matcher matcher = java.util.regex.Pattern
                .compile("[a-z]+|[0-9]+|[ \n]+|.", java.util.regex.Pattern.DOTALL).matcher(source);
        while (matcher.find()) {
            if (matcher.group().charAt(0) != ' ' && matcher.group().charAt(0) != '\n') {
                tokens.add(new Token(matcher.group(), matcher.start()));
            }
        }
        tokens.add(new Token("", source.length()));
        return tokens;
    }

    private static final Set<String> QUOTED = Set.of("hand", "base", "mark", "above", "below", "through",
            "pair", "spare", "line");

    private List<Token> tokens;
    private int next;

    private Token ahead() {
        return tokens.get(next);
    }

    private boolean take(String wanted) {
        if (ahead().text.equals(wanted)) {
            next++;
            return true;
        }
        return false;
    }

    private void must(String wanted) {
        if (!take(wanted)) {
            throw new TextError(1, ahead().position);
        }
    }

    private int number(int least, int most) {
        Token token = ahead();
        if (!token.isNumber()) {
            throw new TextError(1, token.position);
        }
        java.math.BigInteger value = new java.math.BigInteger(token.text);
        if (value.compareTo(java.math.BigInteger.valueOf(least)) < 0
                || value.compareTo(java.math.BigInteger.valueOf(most)) > 0) {
            throw new TextError(2, token.position);
        }
        next++;
        return value.intValue();
    }

    private static void mayFail(List<Integer> codes, int position) {
        if (!codes.isEmpty()) {
            throw new TextError(codes.stream().min(Integer::compare).get(), position);
        }
    }

    private static boolean isName(Token token) {
        return token.isWord() && token.text.length() <= 4 && !QUOTED.contains(token.text);
    }

    private static int named(State draft, String name) {
        for (int i = 0; i < draft.signs.size(); i++) {
            if (draft.signs.get(i).name.equals(name)) {
                return i;
            }
        }
        return NONE;
    }

    private State readText(String source) {
        State draft = new State();
        tokens = tokensOf(source, "");
        next = 0;
        while (Set.of("base", "mark", "pair").contains(ahead().text)) {
            readSign(draft);
        }
        while (draft.lines.isEmpty() || ahead().text.equals("line")) {
            readLine(draft);
        }
        if (take("hand")) {
            draft.hand = number(0, draft.lines.size() - 1);
            must(";");
        }
        must("");
        return draft;
    }

    private void readSign(State draft) {
        String keyword = ahead().text;
        if (draft.signs.size() == 40) {
            throw new TextError(5, ahead().position);
        }
        next++;
        Token name = ahead();
        if (!isName(name)) {
            throw new TextError(1, name.position);
        }
        if (named(draft, name.text) != NONE) {
            throw new TextError(3, name.position);
        }
        next++;
        if (keyword.equals("base")) {
            int[] numbers = {number(1, 20), number(1, 20), number(0, 20), number(0, 20)};
            draft.signs.add(new Told(0, name.text, 0, NONE, numbers, NONE, NONE, false));
        } else if (keyword.equals("mark")) {
            int cls = number(1, 60);
            Token side = ahead();
            int which = List.of("above", "below", "through").indexOf(side.text);
            if (which < 0) {
                throw new TextError(1, side.position);
            }
            if (!classFree(draft, cls, which, NONE)) {
                throw new TextError(4, side.position);
            }
            next++;
            int[] numbers = {number(1, 9), number(1, 9), number(0, 9)};
            draft.signs.add(new Told(1, name.text, cls, which, numbers, NONE, NONE, false));
        } else {
            readPair(draft, name.text);
        }
        must(";");
    }

    private void readPair(State draft, String name) {
        Token one = ahead();
        int first = named(draft, one.text);
        List<Integer> codes = new ArrayList<>();
        if (!isName(one)) {
            codes.add(1);
        }
        if (first == NONE || draft.signs.get(first).kind == 1) {
            codes.add(4);
        }
        if (first != NONE && expansion(draft, first).size() == 6) {
            codes.add(5);
        }
        mayFail(codes, one.position);
        next++;
        Token two = ahead();
        int second = named(draft, two.text);
        if (!isName(two)) {
            codes.add(1);
        }
        if (second == NONE || draft.signs.get(second).kind != 1) {
            codes.add(4);
        }
        for (Told sign : draft.signs) {
            if (sign.kind == 2 && second != NONE && sign.first == first && sign.second == second) {
                codes.add(3);
            }
        }
        mayFail(codes, two.position);
        next++;
        boolean spare = take("spare");
        draft.signs.add(new Told(2, name, 0, NONE, new int[0], first, second, spare));
    }

    private void readLine(State draft) {
        if (ahead().text.equals("line") && draft.lines.size() == 4) {
            throw new TextError(5, ahead().position);
        }
        must("line");
        List<Integer> line = new ArrayList<>();
        while (ahead().isWord()) {
            List<Integer> codes = new ArrayList<>();
            int sign = named(draft, ahead().text);
            if (!isName(ahead())) {
                codes.add(1);
            }
            if (sign == NONE) {
                codes.add(4);
            }
            if (line.size() == 60) {
                codes.add(5);
            }
            mayFail(codes, ahead().position);
            line.add(sign);
            next++;
        }
        must(";");
        draft.lines.add(line);
    }

    private static boolean classFree(State draft, int cls, int side, int except) {
        for (int i = 0; i < draft.signs.size(); i++) {
            Told sign = draft.signs.get(i);
            if (i != except && sign.kind == 1 && sign.cls == cls && sign.side != side) {
                return false;
            }
        }
        return true;
    }

    public int load(int length) {
        if (length < 0 || length > buffer.length()) {
            throw new IllegalArgumentException();
        }
        String source = buffer.substring(0, length);
        buffer = new StringBuilder();
        try {
            state = readText(source);
            undos.clear();
            snapshot = null;
            errorAt = NONE;
            return state.signs.size();
        } catch (TextError e) {
            errorAt = e.position;
            return -10 - e.code;
        }
    }

    public int errorPosition() {
        return errorAt;
    }

    // ---- the terms ----

    private static List<Integer> expansion(State s, int sign) {
        Told told = s.signs.get(sign);
        if (told.kind != 2) {
            return List.of(sign);
        }
        List<Integer> all = new ArrayList<>(expansion(s, told.first));
        all.addAll(expansion(s, told.second));
        return all;
    }

    /** Exchanges neighbours one by one; the number of exchanges goes into swaps[0]. */
    private static List<Integer> decomposed(State s, List<Integer> line, int[] swaps) {
        List<Integer> all = new ArrayList<>();
        for (int sign : line) {
            all.addAll(expansion(s, sign));
        }
        boolean again = true;
        while (again) {
            again = false;
            for (int i = 0; i + 1 < all.size(); i++) {
                Told a = s.signs.get(all.get(i));
                Told b = s.signs.get(all.get(i + 1));
                if (a.kind == 1 && b.kind == 1 && a.cls > b.cls) {
                    int moved = all.get(i);
                    all.set(i, all.get(i + 1));
                    all.set(i + 1, moved);
                    swaps[0]++;
                    again = true;
                }
            }
        }
        return all;
    }

    private List<Integer> decomposed(int line) {
        return decomposed(state, state.lines.get(line), new int[1]);
    }

    /** Composes; from[i] tells the cluster that the i-th sign comes from. */
    private static List<Integer> composed(State s, List<Integer> decomposed, List<Integer> from) {
        List<Integer> out = new ArrayList<>();
        Set<Integer> stayed = new HashSet<>();
        int starterAt = NONE;
        int cluster = NONE;
        for (int sign : decomposed) {
            Told told = s.signs.get(sign);
            if (told.kind == 0) {
                starterAt = out.size();
                stayed.clear();
                cluster++;
                out.add(sign);
                from.add(cluster);
                continue;
            }
            if (cluster == NONE) {
                cluster = 0;
            }
            int made = NONE;
            if (starterAt != NONE && !stayed.contains(told.cls)) {
                for (int i = 0; i < s.signs.size(); i++) {
                    Told pair = s.signs.get(i);
                    if (pair.kind == 2 && !pair.spare && pair.first == out.get(starterAt) && pair.second == sign) {
                        made = i;
                    }
                }
            }
            if (made != NONE) {
                out.set(starterAt, made);
            } else {
                stayed.add(told.cls);
                out.add(sign);
                from.add(cluster);
            }
        }
        return out;
    }

    private List<Integer> composed(int line) {
        return composed(state, decomposed(line), new ArrayList<>());
    }

    private List<List<Integer>> clusters(int line) {
        List<List<Integer>> all = new ArrayList<>();
        for (int sign : decomposed(line)) {
            if (all.isEmpty() || state.signs.get(sign).kind == 0) {
                all.add(new ArrayList<>());
            }
            all.get(all.size() - 1).add(sign);
        }
        return all;
    }

    private int baseOf(List<Integer> cluster) {
        return state.signs.get(cluster.get(0)).kind == 0 ? cluster.get(0) : NONE;
    }

    private List<Integer> marksOf(List<Integer> cluster) {
        return baseOf(cluster) == NONE ? cluster : cluster.subList(1, cluster.size());
    }

    private List<Integer> bare(int line) {
        List<Integer> all = new ArrayList<>();
        for (List<Integer> cluster : clusters(line)) {
            all.add(baseOf(cluster));
        }
        return all;
    }

    private int[] baseNumbers(List<Integer> cluster) {
        int base = baseOf(cluster);
        return base == NONE ? new int[4] : state.signs.get(base).numbers;
    }

    private int pen(int line, int cluster) {
        int pen = 0;
        for (List<Integer> c : clusters(line).subList(0, cluster)) {
            pen += baseNumbers(c)[0];
        }
        return pen;
    }

    /** The boxes of the marks, and behind them one with the sides, the crown and the foot. */
    private List<Box> boxes(List<Integer> cluster) {
        int[] base = baseNumbers(cluster);
        int top = base[1];
        int bottom = 0;
        List<Box> all = new ArrayList<>();
        for (int sign : marksOf(cluster)) {
            Told mark = state.signs.get(sign);
            int width = mark.numbers[0];
            int size = mark.numbers[1];
            int anchor = mark.numbers[2];
            if (mark.side == 0) {
                all.add(new Box(sign, base[2] - anchor, base[2] - anchor + width, top + 1, top + 1 + size));
                top = top + 1 + size;
            } else if (mark.side == 1) {
                all.add(new Box(sign, base[3] - anchor, base[3] - anchor + width, bottom - 1 - size, bottom - 1));
                bottom = bottom - 1 - size;
            } else {
                int left = base[0] / 2 - anchor;
                all.add(new Box(sign, left, left + width, base[1] / 2, base[1] / 2 + size));
            }
        }
        int left = 0;
        int right = base[0];
        int crown = top;
        int foot = bottom;
        for (Box box : all) {
            left = Math.min(left, box.left);
            right = Math.max(right, box.right);
            crown = Math.max(crown, box.upper);
            foot = Math.min(foot, box.lower);
        }
        all.add(new Box(NONE, left, right, foot, crown));
        return all;
    }

    private boolean clash(int line, int cluster) {
        List<Box> mine = boxes(clusters(line).get(cluster));
        List<Box> theirs = boxes(clusters(line).get(cluster + 1));
        int a = pen(line, cluster);
        int b = pen(line, cluster + 1);
        for (Box x : mine.subList(0, mine.size() - 1)) {
            for (Box y : theirs.subList(0, theirs.size() - 1)) {
                if (x.left + a < y.right + b && y.left + b < x.right + a && x.lower < y.upper && y.lower < x.upper) {
                    return true;
                }
            }
        }
        return false;
    }

    // ---- queries of the object ----

    private static void need(boolean there) {
        if (!there) {
            throw new NoSuchElementException();
        }
    }

    private static void allow(boolean good) {
        if (!good) {
            throw new IllegalArgumentException();
        }
    }

    private void needSign(int sign) {
        need(sign >= 0 && sign < state.signs.size());
    }

    private void needLine(int line) {
        need(line >= 0 && line < state.lines.size());
    }

    private void needCluster(int line, int cluster) {
        needLine(line);
        need(cluster >= 0 && cluster < clusters(line).size());
    }

    private int kind(int sign) {
        return state.signs.get(sign).kind;
    }

    public int size(int what) {
        need(what >= 0 && what <= 6);
        int[] counts = new int[7];
        counts[0] = state.signs.size();
        for (Told sign : state.signs) {
            counts[1 + sign.kind]++;
            counts[4] += sign.spare ? 1 : 0;
        }
        counts[5] = state.lines.size();
        counts[6] = state.hand;
        return counts[what];
    }

    public int sign(int sign, int what) {
        needSign(sign);
        need(what >= 0 && what <= 6);
        Told told = state.signs.get(sign);
        if (what < 3) {
            return new int[] {told.kind, told.cls, expansion(state, sign).size()}[what];
        }
        if (told.kind == 0) {
            return told.numbers[what - 3];
        }
        if (told.kind == 1) {
            return what == 6 ? told.side : told.numbers[what - 3];
        }
        int lines = 0;
        for (List<Integer> line : state.lines) {
            lines += line.contains(sign) ? 1 : 0;
        }
        return new int[] {told.first, told.second, told.spare ? 1 : 0, lines}[what - 3];
    }

    public int letter(int sign, int letter) {
        needSign(sign);
        need(letter >= 0);
        String name = state.signs.get(sign).name;
        return letter < name.length() ? name.charAt(letter) : NONE;
    }

    public int expanded(int sign, int index) {
        needSign(sign);
        List<Integer> all = expansion(state, sign);
        need(index >= 0 && index < all.size());
        return all.get(index);
    }

    public int pairOf(int first, int second) {
        needSign(first);
        needSign(second);
        for (int i = 0; i < state.signs.size(); i++) {
            Told told = state.signs.get(i);
            if (told.kind == 2 && told.first == first && told.second == second) {
                return i;
            }
        }
        return NONE;
    }

    public int used(int sign) {
        needSign(sign);
        int found = 0;
        for (int i = 0; i < state.signs.size(); i++) {
            found += kind(i) == 2 && expansion(state, i).contains(sign) ? 1 : 0;
        }
        return found;
    }

    public int recomposed(int sign) {
        needSign(sign);
        List<Integer> form = decomposed(state, List.of(sign), new int[1]);
        return composed(state, form, new ArrayList<>()).get(0);
    }

    public int line(int line, int what) {
        needLine(line);
        need(what >= 0 && what <= 8);
        List<List<Integer>> clusters = clusters(line);
        int[] swaps = new int[1];
        decomposed(state, state.lines.get(line), swaps);
        int widths = 0;
        int crown = Integer.MIN_VALUE;
        int foot = Integer.MAX_VALUE;
        int clashing = 0;
        for (int c = 0; c < clusters.size(); c++) {
            List<Box> boxes = boxes(clusters.get(c));
            widths += baseNumbers(clusters.get(c))[0];
            crown = Math.max(crown, boxes.get(boxes.size() - 1).upper);
            foot = Math.min(foot, boxes.get(boxes.size() - 1).lower);
            clashing += c + 1 < clusters.size() && clash(line, c) ? 1 : 0;
        }
        if (clusters.isEmpty()) {
            crown = 0;
            foot = 0;
        }
        return new int[] {state.lines.get(line).size(), decomposed(line).size(), composed(line).size(), swaps[0],
            clusters.size(), widths, crown, foot, clashing}[what];
    }

    private List<Integer> form(int line, int form) {
        return form == 0 ? state.lines.get(line) : form == 1 ? decomposed(line) : composed(line);
    }

    public int at(int line, int form, int place) {
        needLine(line);
        need(form >= 0 && form <= 2);
        need(place >= 0 && place < form(line, form).size());
        return form(line, form).get(place);
    }

    public int unlike(int line, int form) {
        needLine(line);
        need(form == 1 || form == 2);
        return Arrays.mismatch(ints(form(line, 0)), ints(form(line, form)));
    }

    private static int[] ints(List<Integer> list) {
        return list.stream().mapToInt(Integer::intValue).toArray();
    }

    private int clusterAt(int line, int place) {
        List<Integer> signs = state.lines.get(line);
        int found = NONE;
        for (int i = 0; i <= place; i++) {
            found += i == 0 || kind(expansion(state, signs.get(i)).get(0)) == 0 ? 1 : 0;
        }
        return found;
    }

    public int clusterOf(int line, int place) {
        needLine(line);
        need(place >= 0 && place < state.lines.get(line).size());
        return clusterAt(line, place);
    }

    public int cluster(int line, int cluster, int what) {
        needCluster(line, cluster);
        need(what >= 0 && what <= 8);
        List<List<Integer>> clusters = clusters(line);
        List<Integer> mine = clusters.get(cluster);
        int first = 0;
        for (List<Integer> ahead : clusters.subList(0, cluster)) {
            first += ahead.size();
        }
        List<Box> boxes = boxes(mine);
        Box all = boxes.get(boxes.size() - 1);
        List<Integer> from = new ArrayList<>();
        composed(state, decomposed(line), from);
        int kept = 0;
        // The composer counts clusters by bases, so a cluster without one shifts the others.
        boolean headless = baseOf(clusters.get(0)) == NONE;
        List<Integer> decomposed = decomposed(line);
        int ahead = 0;
        if (headless) {
            ahead = clusters.get(0).size();
            List<Integer> rest = new ArrayList<>();
            composed(state, decomposed.subList(ahead, decomposed.size()), rest);
            if (cluster == 0) {
                kept = ahead;
            }
            for (int c : rest) {
                kept += c == cluster - 1 ? 1 : 0;
            }
        } else {
            for (int c : from) {
                kept += c == cluster ? 1 : 0;
            }
        }
        return new int[] {baseOf(mine), marksOf(mine).size(), first, pen(line, cluster), all.left, all.right,
            all.upper, all.lower, kept}[what];
    }

    public int box(int line, int cluster, int mark, int what) {
        needCluster(line, cluster);
        List<Box> boxes = boxes(clusters(line).get(cluster));
        need(mark >= 0 && mark < boxes.size() - 1 && what >= 0 && what <= 4);
        Box box = boxes.get(mark);
        return new int[] {box.sign, box.left, box.right, box.lower, box.upper}[what];
    }

    /** Counts the orders by building them mark by mark: each next mark is the first left of its class. */
    public long spellings(int line, int cluster) {
        needCluster(line, cluster);
        List<Integer> marks = marksOf(clusters(line).get(cluster));
        if (marks.size() > 18) {
            return -2;
        }
        Map<Integer, Integer> left = new HashMap<>();
        for (int mark : marks) {
            left.merge(state.signs.get(mark).cls, 1, Integer::sum);
        }
        int[] counts = left.values().stream().mapToInt(Integer::intValue).sorted().toArray();
        return orders(counts, new HashMap<>());
    }

    private static long orders(int[] left, Map<String, Long> known) {
        int[] sorted = left.clone();
        Arrays.sort(sorted);
        if (sorted.length == 0 || sorted[sorted.length - 1] == 0) {
            return 1;
        }
        Long before = known.get(Arrays.toString(sorted));
        if (before != null) {
            return before;
        }
        long all = 0;
        for (int i = 0; i < sorted.length; i++) {
            if (sorted[i] > 0) {
                int[] rest = sorted.clone();
                rest[i]--;
                all += orders(rest, known);
            }
        }
        known.put(Arrays.toString(sorted), all);
        return all;
    }

    public boolean clashes(int line, int cluster) {
        needCluster(line, cluster);
        need(cluster + 1 < clusters(line).size());
        return clash(line, cluster);
    }

    public int fullest(int line) {
        needLine(line);
        List<List<Integer>> clusters = clusters(line);
        int most = clusters.stream().mapToInt(c -> marksOf(c).size()).max().orElse(NONE);
        for (int c = 0; c < clusters.size(); c++) {
            if (marksOf(clusters.get(c)).size() == most) {
                return c;
            }
        }
        return NONE;
    }

    public int compare(int line, int other) {
        needLine(line);
        needLine(other);
        return Integer.signum(Arrays.compare(ints(decomposed(line)), ints(decomposed(other))));
    }

    public boolean areBare(int line, int other) {
        needLine(line);
        needLine(other);
        return bare(line).equals(bare(other));
    }

    private List<Integer> found(int line, int pattern, boolean bare) {
        needLine(line);
        needLine(pattern);
        need(!state.lines.get(pattern).isEmpty());
        List<Integer> at = new ArrayList<>();
        List<?> mine = bare ? bare(line) : clusters(line);
        List<?> theirs = bare ? bare(pattern) : clusters(pattern);
        for (int c = 0; c + theirs.size() <= mine.size(); c++) {
            if (mine.subList(c, c + theirs.size()).equals(theirs)) {
                at.add(c);
            }
        }
        return at;
    }

    public int matches(int line, int pattern, boolean bare) {
        return found(line, pattern, bare).size();
    }

    public int match(int line, int pattern, boolean bare, int i) {
        List<Integer> at = found(line, pattern, bare);
        need(i >= 0 && i < at.size());
        return at.get(i);
    }

    public int saved(int line, int sign) {
        needLine(line);
        needSign(sign);
        need(kind(sign) == 2);
        State other = state.copy();
        other.signs.set(sign, other.signs.get(sign).withSpare(false));
        return composed(line).size() - composed(other, decomposed(line), new ArrayList<>()).size();
    }

    public int bestClass(int line, int mark) {
        needLine(line);
        needSign(mark);
        need(kind(mark) == 1);
        int best = NONE;
        int least = Integer.MAX_VALUE;
        for (int cls = 1; cls <= 60; cls++) {
            State other = state.copy();
            other.signs.set(mark, other.signs.get(mark).withClass(cls));
            int[] swaps = new int[1];
            decomposed(other, other.lines.get(line), swaps);
            if (classFree(state, cls, state.signs.get(mark).side, mark) && swaps[0] < least) {
                best = cls;
                least = swaps[0];
            }
        }
        return best;
    }

    public double meanMarks(int line) {
        needLine(line);
        List<List<Integer>> clusters = clusters(line);
        int marks = clusters.stream().mapToInt(c -> marksOf(c).size()).sum();
        return clusters.isEmpty() ? 0 : (double) marks / (double) clusters.size();
    }

    public float shortness(int line) {
        needLine(line);
        return decomposed(line).isEmpty() ? 0 : (float) composed(line).size() / (float) decomposed(line).size();
    }

    // ---- operations ----

    private void record() {
        undos.addLast(state.copy());
        if (undos.size() > 10) {
            undos.removeFirst();
        }
    }

    public int hand(int line) {
        needLine(line);
        record();
        int before = state.hand;
        state.hand = line;
        return before;
    }

    public int type(int line, int place, int sign) {
        needLine(line);
        needSign(sign);
        List<Integer> signs = state.lines.get(line);
        allow(place >= 0 && place <= signs.size());
        if (signs.size() == 60) {
            return -2;
        }
        record();
        signs.add(place, sign);
        return decomposed(line).size();
    }

    public int erase(int line, int from, int to) {
        needLine(line);
        List<Integer> signs = state.lines.get(line);
        need(from >= 0 && from < signs.size() && to >= 0 && to < signs.size());
        allow(to >= from);
        record();
        signs.subList(from, to + 1).clear();
        return signs.size();
    }

    public int stack(int line, int cluster, int mark) {
        needCluster(line, cluster);
        needSign(mark);
        allow(kind(mark) == 1);
        List<List<Integer>> clusters = clusters(line);
        if (decomposed(line).size() + 1 > 60) {
            return -2;
        }
        record();
        List<Integer> marks = new ArrayList<>(marksOf(clusters.get(cluster)));
        // The mark goes ahead as long as the one ahead of it has the greater class.
        int place = marks.size();
        while (place > 0 && state.signs.get(marks.get(place - 1)).cls > state.signs.get(mark).cls) {
            place--;
        }
        clusters.get(cluster).add(mark);
        replace(line, decomposed(state, flat(clusters), new int[1]));
        return place;
    }

    private static List<Integer> flat(List<List<Integer>> clusters) {
        List<Integer> all = new ArrayList<>();
        for (List<Integer> cluster : clusters) {
            all.addAll(cluster);
        }
        return all;
    }

    private void replace(int line, List<Integer> signs) {
        state.lines.set(line, new ArrayList<>(signs));
    }

    public int strip(int line, int cluster, int side) {
        needCluster(line, cluster);
        allow(side >= 0 && side <= 3);
        List<List<Integer>> clusters = clusters(line);
        int before = clusters.get(cluster).size();
        clusters.get(cluster).removeIf(s -> kind(s) == 1 && (side == 3 || state.signs.get(s).side == side));
        int gone = before - clusters.get(cluster).size();
        if (flat(clusters).size() > 60) {
            return -2;
        }
        record();
        replace(line, flat(clusters));
        return gone;
    }

    private int rewrite(int line, List<Integer> signs) {
        if (signs.size() > 60) {
            return -2;
        }
        record();
        replace(line, signs);
        return signs.size();
    }

    public int decompose(int line) {
        needLine(line);
        return rewrite(line, decomposed(line));
    }

    public int compose(int line) {
        needLine(line);
        return rewrite(line, composed(line));
    }

    public int join(int line, int other) {
        needLine(line);
        needLine(other);
        List<Integer> both = new ArrayList<>(state.lines.get(line));
        both.addAll(state.lines.get(other));
        return rewrite(line, both);
    }

    public int setClass(int mark, int cls) {
        needSign(mark);
        allow(kind(mark) == 1 && cls >= 1 && cls <= 60);
        Told told = state.signs.get(mark);
        if (!classFree(state, cls, told.side, mark)) {
            return -2;
        }
        record();
        state.signs.set(mark, told.withClass(cls));
        return told.cls;
    }

    public int setSpare(int sign, boolean spare) {
        needSign(sign);
        allow(kind(sign) == 2);
        record();
        Told told = state.signs.get(sign);
        state.signs.set(sign, told.withSpare(spare));
        return told.spare ? 1 : 0;
    }

    // ---- text, history, queries ----

    public int format(int line, int form) {
        needLine(line);
        need(form >= 0 && form <= 2);
        List<String> names = new ArrayList<>();
        for (int sign : form(line, form)) {
            names.add(List.of("", "+", "*").get(kind(sign)) + state.signs.get(sign).name);
        }
        text = String.join(" ", names);
        return text.length();
    }

    public int formattedByte(int index) {
        return index >= 0 && index < text.length() ? text.charAt(index) : NONE;
    }

    public int undoCount() {
        return undos.size();
    }

    public int undo() {
        if (undos.isEmpty()) {
            return NONE;
        }
        state = undos.removeLast();
        return undos.size();
    }

    public void saveSnapshot() {
        snapshot = state.copy();
    }

    public boolean restoreSnapshot() {
        if (snapshot == null) {
            return false;
        }
        state = snapshot.copy();
        undos.clear();
        return true;
    }

    public int query(int length) {
        if (length < 0 || length > 200 || length > buffer.length()) {
            throw new IllegalArgumentException();
        }
        String source = buffer.substring(0, length);
        buffer = new StringBuilder();
        try {
            tokens = tokensOf(source, "()<=>");
            next = 0;
            boolean many = ahead().text.equals("many");
            if (!take("many")) {
                must("first");
            }
            IntPredicate test = test(0);
            must("");
            errorAt = NONE;
            int found = 0;
            for (int place = 0; place < state.lines.get(state.hand).size(); place++) {
                if (test.test(place)) {
                    if (!many) {
                        return place;
                    }
                    found++;
                }
            }
            return many ? found : NONE;
        } catch (TextError e) {
            errorAt = e.position;
            return HIDDEN - e.code;
        }
    }

    private IntPredicate test(int open) {
        IntPredicate all = conjunction(open);
        while (take("or")) {
            all = all.or(conjunction(open));
        }
        return all;
    }

    private IntPredicate conjunction(int open) {
        IntPredicate all = factor(open);
        while (take("and")) {
            all = all.and(factor(open));
        }
        return all;
    }

    private IntPredicate factor(int open) {
        boolean opens = ahead().text.equals("not") || ahead().text.equals("(");
        if (opens && open == 6) {
            throw new TextError(3, ahead().position);
        }
        if (take("not")) {
            return factor(open + 1).negate();
        }
        if (take("(")) {
            IntPredicate inner = test(open + 1);
            must(")");
            return inner;
        }
        IntUnaryOperator left = value();
        String sign = ahead().text;
        if (!Set.of("<", "=", ">").contains(sign)) {
            throw new TextError(1, ahead().position);
        }
        next++;
        IntUnaryOperator right = value();
        int due = sign.charAt(0) - '=';
        return p -> Integer.compare(left.applyAsInt(p), right.applyAsInt(p)) == due;
    }

    private IntUnaryOperator value() {
        if (ahead().isNumber()) {
            int number = number(0, 9999);
            return p -> number;
        }
        String word = ahead().text;
        List<Integer> line = state.lines.get(state.hand);
        IntUnaryOperator value = switch (word) {
            case "place" -> p -> p;
            case "sign" -> p -> line.get(p);
            case "kind" -> p -> kind(line.get(p));
            case "class" -> p -> state.signs.get(line.get(p)).cls;
            case "parts" -> p -> expansion(state, line.get(p)).size();
            case "cluster" -> p -> clusterAt(state.hand, p);
            default -> throw new TextError(1, ahead().position);
        };
        next++;
        return value;
    }
}
