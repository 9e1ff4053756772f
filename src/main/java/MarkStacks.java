import java.util.NoSuchElementException;

/**
 * Letters with marks above, below and through them. The document DOC.md says in numbered promises
 * what every call does; the sections below follow its order.
 */
public final class MarkStacks {
    public static final int NONE = -1;
    public static final int HIDDEN = -1000000000;

    private static final int MOST_SIGNS = 40;
    private static final int MOST_LINES = 4;
    private static final int MOST_PLACES = 60;
    private static final int MOST_PARTS = 6;
    private static final int MOST_CLASS = 60;
    private static final int MOST_LETTERS = 4;
    private static final int MOST_SPELLED = 18;
    private static final int MOST_UNDONE = 10;
    private static final int MOST_OPEN = 6;
    private static final int BUFFER_ROOM = 900;
    private static final int QUERY_ROOM = 200;
    private static final int QUERY_NUMBER = 9999;
    private static final int FORM_ROOM = MOST_PLACES * MOST_PARTS;
    private static final int TEXT_ROOM = FORM_ROOM * (MOST_LETTERS + 2);
    private static final int REFUSED = -2;
    private static final int LOAD_ERROR = -10;

    private static final int BASE = 0;
    private static final int MARK = 1;
    private static final int COMPOSED = 2;

    private static final int ABOVE = 0;
    private static final int BELOW = 1;
    private static final int THROUGH = 2;
    private static final int ALL_SIDES = 3;

    private static final int WRITTEN = 0;
    private static final int DECOMPOSED_FORM = 1;
    private static final int COMPOSED_FORM = 2;

    private final Tokens tokens;
    private final Script now;
    private final TextReader texts;
    private final QueryReader queries;
    private final History history;
    private final Memory snapshot;
    private final Forms forms;
    private final Forms otherForms;
    private final Boxes boxes;
    private final Boxes nextBoxes;
    private final Row single;
    private final Row formatted;
    private boolean hasSnapshot;
    private int errorAt;

    public MarkStacks() {
        tokens = new Tokens();
        now = new Script();
        texts = new TextReader(tokens);
        queries = new QueryReader(tokens, now);
        history = new History();
        snapshot = new Memory();
        forms = new Forms(now);
        otherForms = new Forms(now);
        boxes = new Boxes(now);
        nextBoxes = new Boxes(now);
        single = new Row(1);
        formatted = new Row(TEXT_ROOM);
        hasSnapshot = false;
        errorAt = NONE;
    }

    // ---- the buffer and the text ----

    public int feed(int a, int b, int c, int d, int e) {
        if (!tokens.hasRoomFor(20)) {
            return NONE;
        }
        tokens.append(a);
        tokens.append(b);
        tokens.append(c);
        tokens.append(d);
        tokens.append(e);
        return tokens.fed;
    }

    public int load(int length) throws IllegalArgumentException {
        needLength(length, BUFFER_ROOM);
        int error = texts.readText(length);
        tokens.fed = 0;
        errorAt = tokens.errorAt;
        if (error != 0) {
            return LOAD_ERROR - error;
        }
        now.takeOver(texts.draft);
        history.forget();
        hasSnapshot = false;
        return now.signCount;
    }

    public int errorPosition() {
        return errorAt;
    }

    // ---- signs ----

    public int size(int what) throws NoSuchElementException {
        needIn(what, 0, 6);
        switch (what) {
            case 0: return now.signCount;
            case 1: return now.countKind(BASE);
            case 2: return now.countKind(MARK);
            case 3: return now.countKind(COMPOSED);
            case 4: return now.countSpare();
            case 5: return now.lineCount;
            default: return now.atHand;
        }
    }

    public int sign(int sign, int what) throws NoSuchElementException {
        needSign(sign);
        needIn(what, 0, 6);
        Sign told = now.told(sign);
        if (told.kind == COMPOSED && what == 6) {
            return now.countLinesWith(sign);
        }
        return told.number(what);
    }

    public int letter(int sign, int letter) throws NoSuchElementException {
        needSign(sign);
        if (letter < 0) {
            throw new NoSuchElementException("no such letter");
        }
        return now.told(sign).letterAt(letter);
    }

    public int expanded(int sign, int index) throws NoSuchElementException {
        needSign(sign);
        Sign told = now.told(sign);
        needIn(index, 0, told.parts - 1);
        return told.part(index);
    }

    public int pairOf(int first, int second) throws NoSuchElementException {
        needSign(first);
        needSign(second);
        return now.findPair(first, second);
    }

    public int used(int sign) throws NoSuchElementException {
        needSign(sign);
        return now.countExpandedWith(sign);
    }

    public int recomposed(int sign) throws NoSuchElementException {
        needSign(sign);
        single.clear();
        single.add(sign);
        forms.derive(single, NONE);
        return forms.composed.get(0);
    }

    // ---- lines and their forms ----

    public int line(int line, int what) throws NoSuchElementException {
        needLine(line);
        needIn(what, 0, 8);
        Row row = now.lineAt(line);
        forms.derive(row, NONE);
        switch (what) {
            case 0: return row.count;
            case 1: return forms.ordered.count;
            case 2: return forms.composed.count;
            case 3: return forms.countSwaps(NONE, 0);
            case 4: return forms.starts.count;
            case 5: return forms.penOf(forms.starts.count);
            case 6: return greatestCrown();
            case 7: return leastFoot();
            default: return countClashes();
        }
    }

    public int at(int line, int form, int place) throws NoSuchElementException {
        needLine(line);
        needIn(form, WRITTEN, COMPOSED_FORM);
        Row row = rowOf(line, form);
        needIn(place, 0, row.count - 1);
        return row.get(place);
    }

    public int unlike(int line, int form) throws NoSuchElementException {
        needLine(line);
        needIn(form, DECOMPOSED_FORM, COMPOSED_FORM);
        return now.lineAt(line).firstUnlike(rowOf(line, form));
    }

    public int clusterOf(int line, int place) throws NoSuchElementException {
        needLine(line);
        Row row = now.lineAt(line);
        needIn(place, 0, row.count - 1);
        return now.clusterAt(row, place);
    }

    public int cluster(int line, int cluster, int what) throws NoSuchElementException {
        needCluster(line, cluster);
        needIn(what, 0, 8);
        boxes.lay(forms, cluster);
        switch (what) {
            case 0: return forms.bases.get(cluster);
            case 1: return forms.marksIn(cluster);
            case 2: return forms.starts.get(cluster);
            case 3: return forms.penOf(cluster);
            case 4: return boxes.leftSide;
            case 5: return boxes.rightSide;
            case 6: return boxes.crown;
            case 7: return boxes.foot;
            default: return forms.kept.get(cluster);
        }
    }

    public int box(int line, int cluster, int mark, int what) throws NoSuchElementException {
        needCluster(line, cluster);
        boxes.lay(forms, cluster);
        needIn(mark, 0, boxes.marks.count - 1);
        needIn(what, 0, 4);
        switch (what) {
            case 0: return boxes.marks.get(mark);
            case 1: return boxes.lefts.get(mark);
            case 2: return boxes.rights.get(mark);
            case 3: return boxes.lowers.get(mark);
            default: return boxes.uppers.get(mark);
        }
    }

    public long spellings(int line, int cluster) throws NoSuchElementException {
        needCluster(line, cluster);
        if (forms.marksIn(cluster) > MOST_SPELLED) {
            return REFUSED;
        }
        return forms.countOrders(cluster);
    }

    public boolean clashes(int line, int cluster) throws NoSuchElementException {
        needCluster(line, cluster);
        needIn(cluster, 0, forms.starts.count - 2);
        return clashesWithNext(cluster);
    }

    public int fullest(int line) throws NoSuchElementException {
        needLine(line);
        forms.derive(now.lineAt(line), NONE);
        int best = NONE;
        int most = NONE;
        for (int c = 0; c < forms.starts.count; c++) {
            if (forms.marksIn(c) > most) {
                most = forms.marksIn(c);
                best = c;
            }
        }
        return best;
    }

    public int compare(int line, int other) throws NoSuchElementException {
        needBoth(line, other);
        Row mine = forms.ordered;
        Row theirs = otherForms.ordered;
        int place = mine.firstUnlike(theirs);
        if (place == NONE) {
            return 0;
        }
        // Behind its last sign a row answers NONE, which is less than every sign.
        return mine.get(place) < theirs.get(place) ? -1 : 1;
    }

    public boolean areBare(int line, int other) throws NoSuchElementException {
        needBoth(line, other);
        return forms.starts.count == otherForms.starts.count && forms.isFoundAt(otherForms, true, 0);
    }

    public int matches(int line, int pattern, boolean bare) throws NoSuchElementException {
        needBoth(line, pattern);
        needIn(otherForms.starts.count, 1, MOST_PLACES);
        int found = 0;
        for (int c = 0; c < forms.starts.count; c++) {
            if (forms.isFoundAt(otherForms, bare, c)) {
                found++;
            }
        }
        return found;
    }

    public int match(int line, int pattern, boolean bare, int i) throws NoSuchElementException {
        needBoth(line, pattern);
        needIn(otherForms.starts.count, 1, MOST_PLACES);
        int found = 0;
        for (int c = 0; c < forms.starts.count; c++) {
            if (forms.isFoundAt(otherForms, bare, c)) {
                if (found == i) {
                    return c;
                }
                found++;
            }
        }
        throw new NoSuchElementException("no such match");
    }

    public int saved(int line, int sign) throws NoSuchElementException {
        needLine(line);
        needSign(sign);
        needIn(now.kindOf(sign), COMPOSED, COMPOSED);
        Row row = now.lineAt(line);
        forms.derive(row, NONE);
        otherForms.derive(row, sign);
        return forms.composed.count - otherForms.composed.count;
    }

    public int bestClass(int line, int mark) throws NoSuchElementException {
        needLine(line);
        needSign(mark);
        needIn(now.kindOf(mark), MARK, MARK);
        forms.derive(now.lineAt(line), NONE);
        int best = NONE;
        int least = 0;
        for (int cls = 1; cls <= MOST_CLASS; cls++) {
            if (now.mayHaveClass(mark, cls)) {
                int swaps = forms.countSwaps(mark, cls);
                if (best == NONE || swaps < least) {
                    best = cls;
                    least = swaps;
                }
            }
        }
        return best;
    }

    public double meanMarks(int line) throws NoSuchElementException {
        needLine(line);
        forms.derive(now.lineAt(line), NONE);
        int clusters = forms.starts.count;
        int marks = 0;
        for (int c = 0; c < clusters; c++) {
            marks += forms.marksIn(c);
        }
        return clusters == 0 ? 0.0 : (double) marks / (double) clusters;
    }

    public float shortness(int line) throws NoSuchElementException {
        needLine(line);
        forms.derive(now.lineAt(line), NONE);
        int signs = forms.ordered.count;
        return signs == 0 ? 0.0f : (float) forms.composed.count / (float) signs;
    }

    // ---- operations ----

    public int hand(int line) throws NoSuchElementException {
        needLine(line);
        history.record(now);
        int before = now.atHand;
        now.atHand = line;
        return before;
    }

    public int type(int line, int place, int sign)
            throws NoSuchElementException, IllegalArgumentException {
        needLine(line);
        needSign(sign);
        Row row = now.lineAt(line);
        allowIn(place, 0, row.count);
        if (row.count >= MOST_PLACES) {
            return REFUSED;
        }
        history.record(now);
        row.insert(place, sign);
        forms.derive(row, NONE);
        return forms.ordered.count;
    }

    public int erase(int line, int from, int to)
            throws NoSuchElementException, IllegalArgumentException {
        needLine(line);
        Row row = now.lineAt(line);
        needIn(from, 0, row.count - 1);
        needIn(to, 0, row.count - 1);
        allowIn(to, from, row.count);
        history.record(now);
        row.cut(from, to);
        return row.count;
    }

    public int stack(int line, int cluster, int mark)
            throws NoSuchElementException, IllegalArgumentException {
        needCluster(line, cluster);
        needSign(mark);
        allowIn(now.kindOf(mark), MARK, MARK);
        if (forms.ordered.count >= MOST_PLACES) {
            return REFUSED;
        }
        history.record(now);
        int place = forms.marksUpTo(cluster, now.classOf(mark));
        Row row = now.lineAt(line);
        row.takeOver(forms.ordered);
        row.insert(forms.firstMark(cluster) + place, mark);
        return place;
    }

    public int strip(int line, int cluster, int side)
            throws NoSuchElementException, IllegalArgumentException {
        needCluster(line, cluster);
        allowIn(side, ABOVE, ALL_SIDES);
        int gone = forms.marksOfSide(cluster, side);
        if (forms.ordered.count - gone > MOST_PLACES) {
            return REFUSED;
        }
        history.record(now);
        forms.writeWithout(cluster, side, now.lineAt(line));
        return gone;
    }

    public int decompose(int line) throws NoSuchElementException {
        needLine(line);
        return rewrite(line, DECOMPOSED_FORM);
    }

    public int compose(int line) throws NoSuchElementException {
        needLine(line);
        return rewrite(line, COMPOSED_FORM);
    }

    public int join(int line, int other) throws NoSuchElementException {
        needLine(line);
        needLine(other);
        Row row = now.lineAt(line);
        Row more = now.lineAt(other);
        if (row.count + more.count > MOST_PLACES) {
            return REFUSED;
        }
        history.record(now);
        row.addAll(more);
        return row.count;
    }

    public int setClass(int mark, int cls) throws NoSuchElementException, IllegalArgumentException {
        needSign(mark);
        allowIn(now.kindOf(mark), MARK, MARK);
        allowIn(cls, 1, MOST_CLASS);
        if (!now.mayHaveClass(mark, cls)) {
            return REFUSED;
        }
        history.record(now);
        Sign told = now.told(mark);
        int before = told.cls;
        told.cls = cls;
        return before;
    }

    public int setSpare(int sign, boolean spare) throws NoSuchElementException, IllegalArgumentException {
        needSign(sign);
        allowIn(now.kindOf(sign), COMPOSED, COMPOSED);
        history.record(now);
        Sign told = now.told(sign);
        int before = told.spare ? 1 : 0;
        told.spare = spare;
        return before;
    }

    // ---- text of a line ----

    public int format(int line, int form) throws NoSuchElementException {
        needLine(line);
        needIn(form, WRITTEN, COMPOSED_FORM);
        Row row = rowOf(line, form);
        formatted.clear();
        for (int i = 0; i < row.count; i++) {
            if (i > 0) {
                formatted.add(' ');
            }
            writeName(now.told(row.get(i)));
        }
        return formatted.count;
    }

    public int formattedByte(int index) {
        return formatted.get(index);
    }

    // ---- history ----

    public int undoCount() {
        return history.count;
    }

    public int undo() {
        return history.takeBack(now);
    }

    public void saveSnapshot() {
        snapshot.keep(now);
        hasSnapshot = true;
    }

    public boolean restoreSnapshot() {
        if (!hasSnapshot) {
            return false;
        }
        snapshot.giveBack(now);
        history.forget();
        return true;
    }

    // ---- queries ----

    public int query(int length) throws IllegalArgumentException {
        needLength(length, QUERY_ROOM);
        int answer = queries.readQuery(length);
        tokens.fed = 0;
        errorAt = tokens.errorAt;
        return tokens.errorCode == 0 ? answer : HIDDEN - tokens.errorCode;
    }

    // ---- what the calls have in common ----

    private void needLength(int length, int most) throws IllegalArgumentException {
        if (length < 0 || length > most || length > tokens.fed) {
            throw new IllegalArgumentException("no such length");
        }
    }

    private static void needIn(int number, int least, int most) throws NoSuchElementException {
        if (number < least || number > most) {
            throw new NoSuchElementException("no such element");
        }
    }

    private static void allowIn(int number, int least, int most) throws IllegalArgumentException {
        if (number < least || number > most) {
            throw new IllegalArgumentException("not allowed");
        }
    }

    private void needSign(int sign) throws NoSuchElementException {
        needIn(sign, 0, now.signCount - 1);
    }

    private void needLine(int line) throws NoSuchElementException {
        needIn(line, 0, now.lineCount - 1);
    }

    /** Leaves the forms of the line in forms. */
    private void needCluster(int line, int cluster) throws NoSuchElementException {
        needLine(line);
        forms.derive(now.lineAt(line), NONE);
        needIn(cluster, 0, forms.starts.count - 1);
    }

    /** Leaves the forms of both lines in forms and otherForms. */
    private void needBoth(int line, int other) throws NoSuchElementException {
        needLine(line);
        needLine(other);
        forms.derive(now.lineAt(line), NONE);
        otherForms.derive(now.lineAt(other), NONE);
    }

    private Row rowOf(int line, int form) {
        Row row = now.lineAt(line);
        if (form == WRITTEN) {
            return row;
        }
        forms.derive(row, NONE);
        return form == DECOMPOSED_FORM ? forms.ordered : forms.composed;
    }

    private int rewrite(int line, int form) {
        Row row = rowOf(line, form);
        if (row.count > MOST_PLACES) {
            return REFUSED;
        }
        history.record(now);
        now.lineAt(line).takeOver(row);
        return row.count;
    }

    private int greatestCrown() {
        // No crown is below 0, as no base is lower than the line.
        int greatest = 0;
        for (int c = 0; c < forms.starts.count; c++) {
            boxes.lay(forms, c);
            greatest = Math.max(greatest, boxes.crown);
        }
        return greatest;
    }

    private int leastFoot() {
        // No foot is above 0, as every bottom starts there.
        int least = 0;
        for (int c = 0; c < forms.starts.count; c++) {
            boxes.lay(forms, c);
            least = Math.min(least, boxes.foot);
        }
        return least;
    }

    private int countClashes() {
        int clashing = 0;
        for (int c = 0; c + 1 < forms.starts.count; c++) {
            if (clashesWithNext(c)) {
                clashing++;
            }
        }
        return clashing;
    }

    private boolean clashesWithNext(int cluster) {
        boxes.lay(forms, cluster);
        nextBoxes.lay(forms, cluster + 1);
        return boxes.overlaps(nextBoxes, now.widthOf(forms.bases.get(cluster)));
    }

    private void writeName(Sign sign) {
        if (sign.kind == MARK) {
            formatted.add('+');
        } else if (sign.kind == COMPOSED) {
            formatted.add('*');
        }
        for (int i = 0; i < MOST_LETTERS; i++) {
            int letter = sign.letterAt(i);
            if (letter != NONE) {
                formatted.add(letter);
            }
        }
    }

    /** A row of numbers in a room that never grows; it answers NONE where it has no number. */
    private static final class Row {
        private final int[] items;
        private int count;

        Row(int room) {
            items = new int[Math.max(0, room)];
            count = 0;
        }

        void clear() {
            count = 0;
        }

        int get(int place) {
            return place >= 0 && place < count && place < items.length ? items[place] : NONE;
        }

        void put(int place, int item) {
            if (place >= 0 && place < count && place < items.length) {
                items[place] = item;
            }
        }

        void add(int item) {
            if (count >= 0 && count < items.length) {
                items[count] = item;
                count++;
            }
        }

        void addAll(Row other) {
            // The other row may be this one, which grows meanwhile.
            int more = other.count;
            for (int i = 0; i < more; i++) {
                add(other.get(i));
            }
        }

        void takeOver(Row other) {
            clear();
            addAll(other);
        }

        void insert(int place, int item) {
            add(item);
            for (int i = count - 1; i > place; i--) {
                put(i, get(i - 1));
            }
            put(place, item);
        }

        void cut(int from, int to) {
            int left = 0;
            for (int i = 0; i < count; i++) {
                if (i < from || i > to) {
                    put(left, get(i));
                    left++;
                }
            }
            count = left;
        }

        boolean contains(int item) {
            for (int i = 0; i < count; i++) {
                if (get(i) == item) {
                    return true;
                }
            }
            return false;
        }

        /** The first place where the rows differ, or where one of them has ended. */
        int firstUnlike(Row other) {
            int most = Math.max(count, other.count);
            for (int i = 0; i < most; i++) {
                if (get(i) != other.get(i)) {
                    return i;
                }
            }
            return NONE;
        }
    }

    /** A base, a mark or a composed sign. */
    private static final class Sign {
        private final Row expansion;
        private int kind;
        private int name;
        private int parts;
        private int cls;
        private int side;
        private int width;
        private int height;
        private int upperAnchor;
        private int lowerAnchor;
        private int anchor;
        private int first;
        private int second;
        private boolean spare;

        Sign() {
            expansion = new Row(MOST_PARTS);
        }

        void begin(int itsKind, int itsName) {
            kind = itsKind;
            name = itsName;
            parts = 0;
            cls = 0;
            side = NONE;
            width = 0;
            height = 0;
            upperAnchor = 0;
            lowerAnchor = 0;
            anchor = 0;
            first = NONE;
            second = NONE;
            spare = false;
            expansion.clear();
        }

        void addPart(int sign) {
            expansion.add(sign);
            parts = expansion.count;
        }

        int part(int index) {
            return expansion.get(index);
        }

        /** Letters are held in one number, the first one in its lowest eight bits, 0 behind the last. */
        int letterAt(int index) {
            if (index < 0 || index >= MOST_LETTERS) {
                return NONE;
            }
            int letter = (name >> (8 * index)) & 255;
            return letter == 0 ? NONE : letter;
        }

        int number(int what) {
            switch (what) {
                case 0: return kind;
                case 1: return cls;
                case 2: return parts;
                case 3: return kind == COMPOSED ? first : width;
                case 4: return kind == COMPOSED ? second : height;
                case 5: return kind == COMPOSED ? (spare ? 1 : 0) : kind == MARK ? anchor : upperAnchor;
                default: return kind == MARK ? side : lowerAnchor;
            }
        }

        void takeOver(Sign other) {
            expansion.takeOver(other.expansion);
            kind = other.kind;
            name = other.name;
            parts = other.parts;
            cls = other.cls;
            side = other.side;
            width = other.width;
            height = other.height;
            upperAnchor = other.upperAnchor;
            lowerAnchor = other.lowerAnchor;
            anchor = other.anchor;
            first = other.first;
            second = other.second;
            spare = other.spare;
        }
    }

    /** All that a text tells: the signs, the lines and the line at hand. */
    private static final class Script {
        private final Sign[] signs;
        private final Row[] lines;
        private final Sign noSign;
        private final Row noLine;
        private int signCount;
        private int lineCount;
        private int atHand;

        Script() {
            signs = new Sign[MOST_SIGNS];
            for (int i = 0; i < signs.length; i++) {
                signs[i] = new Sign();
            }
            lines = new Row[MOST_LINES];
            for (int i = 0; i < lines.length; i++) {
                lines[i] = new Row(MOST_PLACES);
            }
            // Stand in where there is no sign or no line, so that no reader meets null.
            noSign = new Sign();
            noLine = new Row(0);
            signCount = 0;
            lineCount = 1;
            atHand = 0;
        }

        void empty() {
            for (int i = 0; i < lines.length; i++) {
                lineAt(i).clear();
            }
            signCount = 0;
            lineCount = 0;
            atHand = 0;
        }

        /** Also answers the room for the sign or the line that is not counted yet. */
        Sign told(int sign) {
            Sign found = sign >= 0 && sign < signs.length ? signs[sign] : null;
            return found == null ? noSign : found;
        }

        Row lineAt(int line) {
            Row found = line >= 0 && line < lines.length ? lines[line] : null;
            return found == null ? noLine : found;
        }

        int kindOf(int sign) {
            return told(sign).kind;
        }

        int classOf(int sign) {
            return told(sign).cls;
        }

        int widthOf(int sign) {
            return sign == NONE ? 0 : told(sign).width;
        }

        int countKind(int kind) {
            int found = 0;
            for (int i = 0; i < signCount; i++) {
                if (told(i).kind == kind) {
                    found++;
                }
            }
            return found;
        }

        int countSpare() {
            int found = 0;
            for (int i = 0; i < signCount; i++) {
                if (told(i).spare) {
                    found++;
                }
            }
            return found;
        }

        int countExpandedWith(int sign) {
            int found = 0;
            for (int i = 0; i < signCount; i++) {
                if (kindOf(i) == COMPOSED && told(i).expansion.contains(sign)) {
                    found++;
                }
            }
            return found;
        }

        int countLinesWith(int sign) {
            int found = 0;
            for (int i = 0; i < lineCount; i++) {
                if (lineAt(i).contains(sign)) {
                    found++;
                }
            }
            return found;
        }

        int findName(int name) {
            for (int i = 0; i < signCount; i++) {
                if (told(i).name == name) {
                    return i;
                }
            }
            return NONE;
        }

        int findPair(int first, int second) {
            for (int i = 0; i < signCount; i++) {
                Sign sign = told(i);
                if (sign.kind == COMPOSED && sign.first == first && sign.second == second) {
                    return i;
                }
            }
            return NONE;
        }

        /** The composed sign that composing makes of both; freed counts as not spare. */
        int findMade(int first, int second, int freed) {
            int pair = findPair(first, second);
            return pair != NONE && told(pair).spare && pair != freed ? NONE : pair;
        }

        /** The side of the marks of a class, but for one mark; NONE if there is no other one. */
        int sideOfClass(int cls, int except) {
            for (int i = 0; i < signCount; i++) {
                if (i != except && kindOf(i) == MARK && classOf(i) == cls) {
                    return told(i).side;
                }
            }
            return NONE;
        }

        boolean mayHaveClass(int mark, int cls) {
            int side = sideOfClass(cls, mark);
            return side == NONE || side == told(mark).side;
        }

        /** Every sign but a mark has one base in its expansion, the first sign, and begins a cluster. */
        int clusterAt(Row row, int place) {
            int begun = 0;
            for (int i = 0; i <= place && i < row.count; i++) {
                if (i == 0 || kindOf(row.get(i)) != MARK) {
                    begun++;
                }
            }
            return begun - 1;
        }

        void takeOver(Script other) {
            for (int i = 0; i < other.signCount; i++) {
                told(i).takeOver(other.told(i));
            }
            for (int i = 0; i < lines.length; i++) {
                lineAt(i).takeOver(other.lineAt(i));
            }
            signCount = other.signCount;
            lineCount = other.lineCount;
            atHand = other.atHand;
        }
    }

    /** All that an operation can change in a script; the rest of it stays until the next load. */
    private static final class Memory {
        private final Row[] lines;
        private final Row classes;
        private final Row spares;
        private int atHand;

        Memory() {
            lines = new Row[MOST_LINES];
            for (int i = 0; i < lines.length; i++) {
                lines[i] = new Row(MOST_PLACES);
            }
            classes = new Row(MOST_SIGNS);
            spares = new Row(MOST_SIGNS);
            atHand = 0;
        }

        void keep(Script script) {
            for (int i = 0; i < lines.length; i++) {
                Row line = lines[i];
                if (line != null) {
                    line.takeOver(script.lineAt(i));
                }
            }
            classes.clear();
            spares.clear();
            for (int i = 0; i < script.signCount; i++) {
                classes.add(script.told(i).cls);
                spares.add(script.told(i).spare ? 1 : 0);
            }
            atHand = script.atHand;
        }

        void giveBack(Script script) {
            for (int i = 0; i < lines.length; i++) {
                Row line = lines[i];
                if (line != null) {
                    script.lineAt(i).takeOver(line);
                }
            }
            for (int i = 0; i < script.signCount; i++) {
                script.told(i).cls = classes.get(i);
                script.told(i).spare = spares.get(i) == 1;
            }
            script.atHand = atHand;
        }
    }

    /** What the latest operations found, in a ring whose oldest memory gives way to a new one. */
    private static final class History {
        private final Memory[] ring;
        private int next;
        private int count;

        History() {
            ring = new Memory[MOST_UNDONE];
            for (int i = 0; i < ring.length; i++) {
                ring[i] = new Memory();
            }
            next = 0;
            count = 0;
        }

        private Memory memoryAt(int place) {
            return place >= 0 && place < ring.length ? ring[place] : null;
        }

        void forget() {
            count = 0;
        }

        void record(Script script) {
            Memory memory = memoryAt(next);
            if (memory != null) {
                memory.keep(script);
            }
            next = next + 1 < ring.length ? next + 1 : 0;
            count = Math.min(count + 1, ring.length);
        }

        int takeBack(Script script) {
            if (count == 0) {
                return NONE;
            }
            next = next > 0 ? next - 1 : ring.length - 1;
            count--;
            Memory memory = memoryAt(next);
            if (memory != null) {
                memory.giveBack(script);
            }
            return count;
        }
    }

    /** The decomposed form of a row of signs, its clusters, and its composed form. */
    private static final class Forms {
        private final Script script;
        private final Row plain;
        private final Row ordered;
        private final Row composed;
        private final Row starts;
        private final Row bases;
        private final Row kept;

        Forms(Script itsScript) {
            script = itsScript;
            plain = new Row(FORM_ROOM);
            ordered = new Row(FORM_ROOM);
            composed = new Row(FORM_ROOM);
            starts = new Row(MOST_PLACES);
            bases = new Row(MOST_PLACES);
            kept = new Row(MOST_PLACES);
        }

        /** The sign freed (or none) counts as not spare. */
        void derive(Row line, int freed) {
            expandAll(line);
            ordered.takeOver(plain);
            for (int i = 1; i < ordered.count; i++) {
                sinkMark(i);
            }
            findClusters();
            composed.clear();
            kept.clear();
            for (int c = 0; c < starts.count; c++) {
                int before = composed.count;
                composeCluster(c, freed);
                kept.add(composed.count - before);
            }
        }

        private void expandAll(Row line) {
            plain.clear();
            for (int i = 0; i < line.count; i++) {
                plain.addAll(script.told(line.get(i)).expansion);
            }
        }

        private void sinkMark(int from) {
            int mark = ordered.get(from);
            if (script.kindOf(mark) != MARK) {
                return;
            }
            int place = from;
            // A base stops the mark, as its class is 0.
            while (place > 0 && script.classOf(ordered.get(place - 1)) > script.classOf(mark)) {
                ordered.put(place, ordered.get(place - 1));
                place--;
            }
            ordered.put(place, mark);
        }

        private void findClusters() {
            starts.clear();
            bases.clear();
            for (int i = 0; i < ordered.count; i++) {
                boolean isBase = script.kindOf(ordered.get(i)) == BASE;
                if (i == 0 || isBase) {
                    starts.add(i);
                    bases.add(isBase ? ordered.get(i) : NONE);
                }
            }
        }

        private void composeCluster(int cluster, int freed) {
            int starter = bases.get(cluster);
            int starterPlace = composed.count;
            if (starter != NONE) {
                composed.add(starter);
            }
            // Marks stand in the order of their classes: only the latest that stayed can have the same.
            int stayedClass = 0;
            for (int i = firstMark(cluster); i < endOf(cluster); i++) {
                int mark = ordered.get(i);
                boolean barred = starter == NONE || script.classOf(mark) == stayedClass;
                int made = barred ? NONE : script.findMade(starter, mark, freed);
                if (made == NONE) {
                    composed.add(mark);
                    stayedClass = script.classOf(mark);
                } else {
                    composed.put(starterPlace, made);
                    starter = made;
                }
            }
        }

        int endOf(int cluster) {
            return cluster + 1 < starts.count ? starts.get(cluster + 1) : ordered.count;
        }

        int firstMark(int cluster) {
            return bases.get(cluster) == NONE ? starts.get(cluster) : starts.get(cluster) + 1;
        }

        int marksIn(int cluster) {
            return endOf(cluster) - firstMark(cluster);
        }

        int penOf(int cluster) {
            int pen = 0;
            for (int c = 0; c < cluster && c < starts.count; c++) {
                pen += script.widthOf(bases.get(c));
            }
            return pen;
        }

        /** The swaps if one mark (or none) had another class. */
        int countSwaps(int mark, int cls) {
            int swaps = 0;
            for (int i = 0; i < plain.count; i++) {
                swaps += countPassed(i, mark, cls);
            }
            return swaps;
        }

        /** How many marks of greater class the mark at a place has to pass on its way to the front. */
        private int countPassed(int place, int mark, int cls) {
            int own = classWith(plain.get(place), mark, cls);
            int passed = 0;
            for (int i = place - 1; i >= 0 && own > 0; i--) {
                int ahead = classWith(plain.get(i), mark, cls);
                if (ahead == 0) {
                    break;
                }
                if (ahead > own) {
                    passed++;
                }
            }
            return passed;
        }

        private int classWith(int sign, int mark, int cls) {
            return sign == mark ? cls : script.classOf(sign);
        }

        /** Only marks of unlike classes can change places, so these are the orders of the classes alone. */
        long countOrders(int cluster) {
            long orders = 1;
            int marks = 0;
            int alike = 0;
            int latest = 0;
            for (int i = firstMark(cluster); i < endOf(cluster); i++) {
                int cls = script.classOf(ordered.get(i));
                alike = cls == latest ? alike + 1 : 1;
                latest = cls;
                marks++;
                orders = alike > 0 ? orders * marks / alike : 0;
            }
            return orders;
        }

        int marksUpTo(int cluster, int cls) {
            int found = 0;
            for (int i = firstMark(cluster); i < endOf(cluster); i++) {
                if (script.classOf(ordered.get(i)) <= cls) {
                    found++;
                }
            }
            return found;
        }

        private boolean isOfSide(int sign, int side) {
            return side == ALL_SIDES || script.told(sign).side == side;
        }

        int marksOfSide(int cluster, int side) {
            int found = 0;
            for (int i = firstMark(cluster); i < endOf(cluster); i++) {
                if (isOfSide(ordered.get(i), side)) {
                    found++;
                }
            }
            return found;
        }

        void writeWithout(int cluster, int side, Row target) {
            int from = firstMark(cluster);
            int to = endOf(cluster);
            target.clear();
            for (int i = 0; i < ordered.count; i++) {
                int sign = ordered.get(i);
                if (i < from || i >= to || !isOfSide(sign, side)) {
                    target.add(sign);
                }
            }
        }

        /** Whether all clusters of the pattern stand here, one behind the other, from a cluster on. */
        boolean isFoundAt(Forms pattern, boolean bare, int from) {
            if (from + pattern.starts.count > starts.count) {
                return false;
            }
            for (int c = 0; c < pattern.starts.count; c++) {
                boolean same = bare
                        ? bases.get(from + c) == pattern.bases.get(c)
                        : hasSameSigns(from + c, pattern, c);
                if (!same) {
                    return false;
                }
            }
            return true;
        }

        private boolean hasSameSigns(int cluster, Forms other, int otherCluster) {
            int start = starts.get(cluster);
            int otherStart = other.starts.get(otherCluster);
            int signs = endOf(cluster) - start;
            if (signs != other.endOf(otherCluster) - otherStart) {
                return false;
            }
            for (int i = 0; i < signs; i++) {
                if (ordered.get(start + i) != other.ordered.get(otherStart + i)) {
                    return false;
                }
            }
            return true;
        }
    }

    /** The marks of one cluster, stacked by anchors around its base; places are without the pen. */
    private static final class Boxes {
        // The most marks of a cluster: a composed sign with all its marks, and marks behind it.
        private static final int ROOM = MOST_PLACES + MOST_PARTS;

        private final Script script;
        private final Row marks;
        private final Row lefts;
        private final Row rights;
        private final Row lowers;
        private final Row uppers;
        private int top;
        private int bottom;
        private int leftSide;
        private int rightSide;
        private int crown;
        private int foot;

        Boxes(Script itsScript) {
            script = itsScript;
            marks = new Row(ROOM);
            lefts = new Row(ROOM);
            rights = new Row(ROOM);
            lowers = new Row(ROOM);
            uppers = new Row(ROOM);
        }

        void lay(Forms forms, int cluster) {
            int base = forms.bases.get(cluster);
            begin(script.widthOf(base), heightOf(base));
            for (int i = forms.firstMark(cluster); i < forms.endOf(cluster); i++) {
                layMark(forms.ordered.get(i), base);
            }
            crown = Math.max(crown, top);
            foot = Math.min(foot, bottom);
        }

        private void begin(int width, int height) {
            marks.clear();
            lefts.clear();
            rights.clear();
            lowers.clear();
            uppers.clear();
            top = height;
            bottom = 0;
            leftSide = 0;
            rightSide = width;
            crown = height;
            foot = 0;
        }

        private int heightOf(int base) {
            return base == NONE ? 0 : script.told(base).height;
        }

        private void layMark(int sign, int base) {
            Sign mark = script.told(sign);
            int left = anchorFor(mark.side, base) - mark.anchor;
            int lower;
            if (mark.side == ABOVE) {
                lower = top + 1;
                top = lower + mark.height;
            } else if (mark.side == BELOW) {
                lower = bottom - 1 - mark.height;
                bottom = lower;
            } else {
                lower = heightOf(base) / 2;
            }
            addBox(sign, left, left + mark.width, lower, lower + mark.height);
        }

        private int anchorFor(int side, int base) {
            if (base == NONE) {
                return 0;
            }
            Sign sign = script.told(base);
            if (side == THROUGH) {
                return sign.width / 2;
            }
            return side == ABOVE ? sign.upperAnchor : sign.lowerAnchor;
        }

        private void addBox(int mark, int left, int right, int lower, int upper) {
            marks.add(mark);
            lefts.add(left);
            rights.add(right);
            lowers.add(lower);
            uppers.add(upper);
            leftSide = Math.min(leftSide, left);
            rightSide = Math.max(rightSide, right);
            crown = Math.max(crown, upper);
            foot = Math.min(foot, lower);
        }

        /** The other cluster stands so much further to the right as shift says. */
        boolean overlaps(Boxes other, int shift) {
            for (int i = 0; i < marks.count; i++) {
                for (int k = 0; k < other.marks.count; k++) {
                    if (overlapsAt(i, other, k, shift)) {
                        return true;
                    }
                }
            }
            return false;
        }

        private boolean overlapsAt(int i, Boxes other, int k, int shift) {
            return lefts.get(i) < other.rights.get(k) + shift
                    && other.lefts.get(k) + shift < rights.get(i)
                    && lowers.get(i) < other.uppers.get(k)
                    && other.lowers.get(k) < uppers.get(i);
        }
    }

    /**
     * The buffer and its tokens. The first error is kept; behind it every token is an end, so that
     * readers run out by themselves.
     */
    private static final class Tokens {
        private static final int END = 0;
        private static final int WORD = 1;
        private static final int NUMBER = 2;
        private static final int SYMBOL = 3;
        // Above every range, and far from where ten times a number would wrap around.
        private static final int HUGE = 1000000;

        private final byte[] bytes;
        private int fed;
        private int end;
        private int start;
        private int next;
        private int kind;
        private int value;
        private int errorCode;
        private int errorAt;

        Tokens() {
            bytes = new byte[BUFFER_ROOM];
            fed = 0;
            errorCode = 0;
            errorAt = NONE;
        }

        boolean hasRoomFor(int more) {
            return fed + more <= bytes.length;
        }

        void append(int four) {
            for (int shift = 24; shift >= 0; shift -= 8) {
                if (fed >= 0 && fed < bytes.length) {
                    bytes[fed] = (byte) (four >> shift);
                    fed++;
                }
            }
        }

        private int byteAt(int place) {
            return place >= 0 && place < bytes.length ? bytes[place] : 0;
        }

        void begin(int length) {
            end = length;
            next = 0;
            errorCode = 0;
            errorAt = NONE;
            advance();
        }

        void advance() {
            if (errorCode != 0) {
                return;
            }
            while (next < end && isSeparator(byteAt(next))) {
                next++;
            }
            start = next;
            if (next >= end) {
                kind = END;
            } else if (isLetter(byteAt(next))) {
                kind = WORD;
                while (next < end && isLetter(byteAt(next))) {
                    next++;
                }
            } else if (isDigit(byteAt(next))) {
                kind = NUMBER;
                value = 0;
                while (next < end && isDigit(byteAt(next))) {
                    value = Math.min(HUGE, value * 10 + byteAt(next) - '0');
                    next++;
                }
            } else {
                kind = SYMBOL;
                value = byteAt(next);
                next++;
            }
        }

        private static boolean isSeparator(int b) {
            return b == ' ' || b == '\n';
        }

        private static boolean isLetter(int b) {
            return b >= 'a' && b <= 'z';
        }

        private static boolean isDigit(int b) {
            return b >= '0' && b <= '9';
        }

        void fail(int code) {
            if (errorCode == 0) {
                errorCode = code;
                errorAt = start;
            }
            kind = END;
        }

        boolean isWord(String word) {
            if (kind != WORD || next - start != word.length()) {
                return false;
            }
            for (int i = 0; i < word.length(); i++) {
                if (word.charAt(i) != byteAt(start + i)) {
                    return false;
                }
            }
            return true;
        }

        boolean isSymbol(char symbol) {
            return kind == SYMBOL && value == symbol;
        }

        /** A NAME or a SIGN of the grammar; the longer words that it quotes have too many letters anyway. */
        boolean isName() {
            return kind == WORD && next - start <= MOST_LETTERS && !isWord("hand") && !isWord("base")
                    && !isWord("mark") && !isWord("pair") && !isWord("line");
        }

        int packedName() {
            int name = 0;
            for (int i = 0; i < MOST_LETTERS && start + i < next; i++) {
                name |= byteAt(start + i) << (8 * i);
            }
            return name;
        }

        void takeSymbol(char symbol) {
            if (!isSymbol(symbol)) {
                fail(1);
            }
            advance();
        }

        int takeNumber(int least, int most) {
            if (kind != NUMBER) {
                fail(1);
            } else if (value < least || value > most) {
                fail(2);
            }
            int number = value;
            advance();
            return number;
        }

        void takeEnd() {
            if (kind != END) {
                fail(1);
            }
        }
    }

    /** Reads a text into a draft, so that a text with an error changes nothing else. */
    private static final class TextReader {
        private final Tokens tokens;
        private final Script draft;

        TextReader(Tokens itsTokens) {
            tokens = itsTokens;
            draft = new Script();
        }

        /** Answers the code of the error, 0 without one. */
        int readText(int length) {
            draft.empty();
            tokens.begin(length);
            for (int i = 0; i < MOST_SIGNS && isSignAhead(); i++) {
                if (tokens.isWord("base")) {
                    readBase();
                } else if (tokens.isWord("mark")) {
                    readMark();
                } else {
                    readPair();
                }
            }
            if (isSignAhead()) {
                tokens.fail(5);
            }
            if (!tokens.isWord("line")) {
                tokens.fail(1);
            }
            for (int i = 0; i < MOST_LINES && tokens.isWord("line"); i++) {
                readLine();
            }
            if (tokens.isWord("line")) {
                tokens.fail(5);
            }
            if (tokens.isWord("hand")) {
                tokens.advance();
                draft.atHand = tokens.takeNumber(0, draft.lineCount - 1);
                tokens.takeSymbol(';');
            }
            tokens.takeEnd();
            return tokens.errorCode;
        }

        private boolean isSignAhead() {
            return tokens.isWord("base") || tokens.isWord("mark") || tokens.isWord("pair");
        }

        /** The sign is counted when it is read whole: in its own parts it is not there yet. */
        private Sign beginSign(int kind) {
            tokens.advance();
            Sign sign = draft.told(draft.signCount);
            sign.begin(kind, takeName());
            return sign;
        }

        private void endSign() {
            tokens.takeSymbol(';');
            draft.signCount++;
        }

        private int takeName() {
            int name = tokens.packedName();
            if (!tokens.isName()) {
                tokens.fail(1);
            } else if (draft.findName(name) != NONE) {
                tokens.fail(3);
            }
            tokens.advance();
            return name;
        }

        private void readBase() {
            Sign base = beginSign(BASE);
            base.width = tokens.takeNumber(1, 20);
            base.height = tokens.takeNumber(1, 20);
            base.upperAnchor = tokens.takeNumber(0, 20);
            base.lowerAnchor = tokens.takeNumber(0, 20);
            base.addPart(draft.signCount);
            endSign();
        }

        private void readMark() {
            Sign mark = beginSign(MARK);
            mark.cls = tokens.takeNumber(1, MOST_CLASS);
            mark.side = takeSide(mark.cls);
            mark.width = tokens.takeNumber(1, 9);
            mark.height = tokens.takeNumber(1, 9);
            mark.anchor = tokens.takeNumber(0, 9);
            mark.addPart(draft.signCount);
            endSign();
        }

        private int takeSide(int cls) {
            int side = tokens.isWord("above") ? ABOVE
                    : tokens.isWord("below") ? BELOW
                    : tokens.isWord("through") ? THROUGH : NONE;
            int due = draft.sideOfClass(cls, NONE);
            if (side == NONE) {
                tokens.fail(1);
            } else if (due != NONE && due != side) {
                tokens.fail(4);
            }
            tokens.advance();
            return side;
        }

        private void readPair() {
            Sign pair = beginSign(COMPOSED);
            pair.first = takeFirst();
            pair.second = takeSecond(pair.first);
            pair.expansion.takeOver(draft.told(pair.first).expansion);
            pair.addPart(pair.second);
            if (tokens.isWord("spare")) {
                pair.spare = true;
                tokens.advance();
            }
            endSign();
        }

        /** The sign of the token ahead, which is not taken yet. */
        private int findSign() {
            int sign = NONE;
            if (!tokens.isName()) {
                tokens.fail(1);
            } else {
                sign = draft.findName(tokens.packedName());
                if (sign == NONE) {
                    tokens.fail(4);
                }
            }
            return sign;
        }

        private int takeFirst() {
            int first = findSign();
            if (draft.kindOf(first) == MARK) {
                tokens.fail(4);
            } else if (draft.told(first).parts >= MOST_PARTS) {
                tokens.fail(5);
            }
            tokens.advance();
            return first;
        }

        private int takeSecond(int first) {
            int second = findSign();
            if (draft.kindOf(second) != MARK) {
                tokens.fail(4);
            } else if (draft.findPair(first, second) != NONE) {
                tokens.fail(3);
            }
            tokens.advance();
            return second;
        }

        private void readLine() {
            tokens.advance();
            Row line = draft.lineAt(draft.lineCount);
            for (int i = 0; i <= MOST_PLACES && tokens.kind == Tokens.WORD; i++) {
                int sign = findSign();
                if (line.count >= MOST_PLACES) {
                    tokens.fail(5);
                }
                line.add(sign);
                tokens.advance();
            }
            tokens.takeSymbol(';');
            draft.lineCount++;
        }
    }

    /**
     * Reads a query and evaluates it for all places of the line at hand at once: bit i of a mask says
     * whether the test holds for the place i.
     */
    private static final class QueryReader {
        private final Tokens tokens;
        private final Script script;
        private final Row line;
        private final Row clusters;
        private final Row left;
        private final Row right;

        QueryReader(Tokens itsTokens, Script itsScript) {
            tokens = itsTokens;
            script = itsScript;
            line = new Row(MOST_PLACES);
            clusters = new Row(MOST_PLACES);
            left = new Row(MOST_PLACES);
            right = new Row(MOST_PLACES);
        }

        int readQuery(int length) {
            tellLine();
            tokens.begin(length);
            boolean many = tokens.isWord("many");
            if (!many && !tokens.isWord("first")) {
                tokens.fail(1);
            }
            tokens.advance();
            long holds = readTest(0);
            tokens.takeEnd();
            if (many) {
                return Long.bitCount(holds);
            }
            return holds == 0 ? NONE : Long.numberOfTrailingZeros(holds);
        }

        private void tellLine() {
            line.takeOver(script.lineAt(script.atHand));
            clusters.clear();
            for (int i = 0; i < line.count; i++) {
                clusters.add(script.clusterAt(line, i));
            }
        }

        private long allPlaces() {
            return (1L << line.count) - 1;
        }

        /** The depth open counts each 'not' and '(' around. */
        private long readTest(int open) {
            long holds = readConjunction(open);
            for (int i = 0; i < QUERY_ROOM && tokens.isWord("or"); i++) {
                tokens.advance();
                holds |= readConjunction(open);
            }
            return holds;
        }

        private long readConjunction(int open) {
            long holds = readFactor(open);
            for (int i = 0; i < QUERY_ROOM && tokens.isWord("and"); i++) {
                tokens.advance();
                holds &= readFactor(open);
            }
            return holds;
        }

        private long readFactor(int open) {
            boolean negated = tokens.isWord("not");
            if (!negated && !tokens.isSymbol('(')) {
                return readComparison();
            }
            if (open >= MOST_OPEN) {
                tokens.fail(3);
                return 0;
            }
            tokens.advance();
            if (negated) {
                return allPlaces() & ~readFactor(open + 1);
            }
            long holds = readTest(open + 1);
            tokens.takeSymbol(')');
            return holds;
        }

        private long readComparison() {
            readValue(left);
            boolean less = tokens.isSymbol('<');
            boolean same = tokens.isSymbol('=');
            if (!less && !same && !tokens.isSymbol('>')) {
                tokens.fail(1);
            }
            tokens.advance();
            readValue(right);
            long holds = 0;
            for (int i = 0; i < left.count; i++) {
                int sign = Integer.compare(left.get(i), right.get(i));
                if (less ? sign < 0 : same ? sign == 0 : sign > 0) {
                    holds |= 1L << i;
                }
            }
            return holds;
        }

        private void readValue(Row values) {
            values.clear();
            if (tokens.kind == Tokens.NUMBER) {
                int number = tokens.takeNumber(0, QUERY_NUMBER);
                for (int i = 0; i < line.count; i++) {
                    values.add(number);
                }
                return;
            }
            int property = propertyAhead();
            if (property == NONE) {
                tokens.fail(1);
            }
            for (int i = 0; i < line.count; i++) {
                values.add(valueAt(i, property));
            }
            tokens.advance();
        }

        private int propertyAhead() {
            return tokens.isWord("place") ? 0
                    : tokens.isWord("sign") ? 1
                    : tokens.isWord("kind") ? 2
                    : tokens.isWord("class") ? 3
                    : tokens.isWord("parts") ? 4
                    : tokens.isWord("cluster") ? 5 : NONE;
        }

        private int valueAt(int place, int property) {
            int sign = line.get(place);
            Sign told = script.told(sign);
            switch (property) {
                case 0: return place;
                case 1: return sign;
                case 2: return told.kind;
                case 3: return told.cls;
                case 4: return told.parts;
                default: return clusters.get(place);
            }
        }
    }
}
