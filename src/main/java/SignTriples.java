import java.util.Arrays;

/** Signs of triples: which way round any three of some things lie, and what follows from that. */
public final class SignTriples {
    public static final int NONE = -1, UNKNOWN = -1001, OUTSIDE = -1002, NOT = -1003, FULL = -1004,
            NULL = -1011, SIZE = -1012, INDEX = -1013, STORE = -1014, EMPTY = -1015, OTHER = -1016;

    private static final int FEWEST_ELEMENTS = 3;
    private static final int MOST_ELEMENTS = 6;
    private static final int FARTHEST = 99;
    private static final int NUMBERS = 3;
    private static final int KEPT = 2;
    private static final int BOXES = 3;
    private static final int PLACES = 6;
    private static final int COCIRCUITS = 0;
    private static final int CIRCUITS = 1;
    private static final int COVECTORS = 2;
    private static final int TOPES = 3;
    private static final int KINDS = 4;

    private final Arrangement now;
    /** What a text makes of the present arrangement, before it is known to have no fault. */
    private final Arrangement draft;
    private final History past;
    private final Arrangement[] kept;
    private final boolean[] isKept;
    private final Text text;
    private final Findings findings;
    private final Box[] boxes;

    public SignTriples() {
        now = new Arrangement();
        draft = new Arrangement();
        past = new History();
        kept = new Arrangement[KEPT];
        isKept = new boolean[KEPT];
        for (int k = 0; k < KEPT; k++) {
            kept[k] = new Arrangement();
        }
        text = new Text();
        findings = new Findings(now);
        boxes = new Box[BOXES];
        for (int b = 0; b < BOXES; b++) {
            boxes[b] = new Box();
        }
    }

    // ---- what is told

    public int write(int letter) {
        if (letter < 0 || letter > 255) {
            return OUTSIDE;
        }
        if (text.isFull()) {
            return FULL;
        }
        text.append(letter);
        return text.length();
    }

    public int erase() {
        int had = text.length();
        text.clear();
        return had;
    }

    public int fault() {
        draft.copy(now);
        return text.read(draft);
    }

    public int tell() {
        draft.copy(now);
        if (text.read(draft) != NONE) {
            return NOT;
        }
        text.clear();
        now.copy(draft);
        past.clear();
        for (int k = 0; k < KEPT; k++) {
            isKept[k] = false;
        }
        findings.forget();
        return text.clauses();
    }

    public int sign(int a, int b, int c) {
        if (!now.has(a) || !now.has(b) || !now.has(c)) {
            return UNKNOWN;
        }
        return now.signOf(a, b, c);
    }

    public int turn(int a, int b, int c) {
        if (!now.has(a) || !now.has(b) || !now.has(c)) {
            return UNKNOWN;
        }
        return now.turnOf(a, b, c);
    }

    public int point(int element, int i) {
        if (!now.has(element)) {
            return UNKNOWN;
        }
        if (i < 0 || i >= NUMBERS) {
            return OUTSIDE;
        }
        return now.numberOf(element, i);
    }

    // ---- what is done

    public int set(int a, int b, int c, int v) {
        if (!now.has(a) || !now.has(b) || !now.has(c) || a == b || a == c || b == c) {
            return UNKNOWN;
        }
        if (v < -1 || v > 1) {
            return OUTSIDE;
        }
        beginDeed();
        int was = now.signOf(a, b, c);
        now.giveSign(a, b, c, v);
        return was;
    }

    public int place(int element, int x, int y, int z) {
        if (!now.has(element)) {
            return UNKNOWN;
        }
        if (isFar(x) || isFar(y) || isFar(z)) {
            return OUTSIDE;
        }
        beginDeed();
        boolean same = now.isAt(element, x, y, z);
        now.givePoint(element, x, y, z);
        return same ? 0 : 1;
    }

    public int flip(int element) {
        if (!now.has(element)) {
            return UNKNOWN;
        }
        beginDeed();
        return now.reverse(element);
    }

    public int swap(int element, int other) {
        if (!now.has(element) || !now.has(other) || element == other) {
            return UNKNOWN;
        }
        beginDeed();
        return now.trade(element, other);
    }

    public int add(int x, int y, int z) {
        if (isFar(x) || isFar(y) || isFar(z)) {
            return OUTSIDE;
        }
        if (now.size() >= MOST_ELEMENTS) {
            return FULL;
        }
        beginDeed();
        now.append(x, y, z);
        return now.size();
    }

    public int drop(int element) {
        if (!now.has(element)) {
            return UNKNOWN;
        }
        if (now.size() <= FEWEST_ELEMENTS) {
            return NOT;
        }
        beginDeed();
        now.remove(element);
        return now.size();
    }

    public int draw() {
        beginDeed();
        return now.takeTurns();
    }

    public int undo() {
        if (past.size() == 0) {
            return NOT;
        }
        past.takeLatest(now);
        findings.forget();
        return past.size();
    }

    public int keep(int k) {
        if (k < 0 || k >= KEPT) {
            return OUTSIDE;
        }
        kept[k].copy(now);
        isKept[k] = true;
        return now.size();
    }

    public int back(int k) {
        if (k < 0 || k >= KEPT) {
            return OUTSIDE;
        }
        if (!isKept[k]) {
            return NOT;
        }
        now.copy(kept[k]);
        past.clear();
        findings.forget();
        return now.size();
    }

    // ---- what is found

    public int five(int a, int b, int c, int d, int e) {
        boolean known = now.has(a) && now.has(b) && now.has(c) && now.has(d) && now.has(e);
        if (!known || !areDistinct(a, b, c, d, e)) {
            return UNKNOWN;
        }
        return Rules.isGood(now, a, b, c, d, e) ? 1 : 0;
    }

    public int is(int what) {
        switch (what) {
            case 0:
                return findings.hasExchange() ? 1 : 0;
            case 1:
                return findings.isOrderly() ? 1 : 0;
            case 2:
                return now.isDrawn() ? 1 : 0;
            case 3:
                return now.bases() == now.triples() ? 1 : 0;
            default:
                return OUTSIDE;
        }
    }

    public int vector(int kind, int k, int element) {
        if (!isKind(kind) || k < -1) {
            return OUTSIDE;
        }
        if (!findings.canTellOf(kind)) {
            return NOT;
        }
        VectorRow row = findings.ofKind(kind);
        if (k == -1) {
            return row.length();
        }
        if (!row.has(k) || !now.has(element)) {
            return UNKNOWN;
        }
        return Key.numberAt(row.at(k), now.size(), element);
    }

    public int beside(int tope) {
        if (!findings.isOrderly()) {
            return NOT;
        }
        if (!findings.ofKind(TOPES).has(tope)) {
            return UNKNOWN;
        }
        return findings.graph().neighbours(tope);
    }

    public int between(int tope, int other, int what) {
        if (what < 0 || what > 2) {
            return OUTSIDE;
        }
        if (!findings.isOrderly()) {
            return NOT;
        }
        VectorRow topes = findings.ofKind(TOPES);
        if (!topes.has(tope) || !topes.has(other)) {
            return UNKNOWN;
        }
        if (what == 0) {
            return Integer.bitCount(Key.separation(topes.at(tope), topes.at(other)));
        }
        TopeGraph graph = findings.graph();
        if (what == 1) {
            return graph.isNext(tope, other) ? 1 : 0;
        }
        return graph.steps(tope, other);
    }

    public int mutation(int triple) {
        if (!findings.isOrderly()) {
            return NOT;
        }
        if (triple < -1 || triple >= now.triples()) {
            return UNKNOWN;
        }
        int mutations = findings.mutations();
        return triple == -1 ? Integer.bitCount(mutations) : mutations >> triple & 1;
    }

    public int extensions() {
        if (!findings.isOrderly() || now.size() > Foretelling.MOST_TO_EXTEND) {
            return NOT;
        }
        return findings.extensionWays();
    }

    // ---- boxes

    public int box(int box, int sort, int n) {
        if (!isBox(box)) {
            return UNKNOWN;
        }
        if (sort < 0 || sort > 1 || n > PLACES) {
            return OUTSIDE;
        }
        if (n < 0) {
            return SIZE;
        }
        boxes[box].make(sort == 1, n);
        return n;
    }

    public int lay(int box, int i, int kind, int k) {
        if (!isKind(kind)) {
            return OUTSIDE;
        }
        if (!findings.canTellOf(kind)) {
            return NOT;
        }
        VectorRow row = findings.ofKind(kind);
        if (!row.has(k) || !isBox(box)) {
            return UNKNOWN;
        }
        if (boxes[box].isMissing()) {
            return NULL;
        }
        if (!boxes[box].hasPlace(i)) {
            return INDEX;
        }
        int key = row.at(k);
        if (!boxes[box].isMadeFor(key)) {
            return STORE;
        }
        boxes[box].put(i, key, now.size());
        return Key.zeros(key);
    }

    public int compose(int box, int i, int j) {
        if (!isBox(box)) {
            return UNKNOWN;
        }
        Box held = boxes[box];
        if (held.isMissing()) {
            return NULL;
        }
        if (!held.hasPlace(i) || !held.hasPlace(j)) {
            return INDEX;
        }
        if (held.isEmptyAt(i) || held.isEmptyAt(j)) {
            return EMPTY;
        }
        if (held.elementsAt(i) != held.elementsAt(j)) {
            return OTHER;
        }
        int key = Key.composed(held.keyAt(i), held.keyAt(j));
        held.put(i, key, held.elementsAt(i));
        return Key.zeros(key);
    }

    public int seen(int box, int i, int element) {
        int refused = refusalAt(box, i);
        if (refused != 0) {
            return refused;
        }
        int elements = boxes[box].elementsAt(i);
        if (element < 0 || element >= elements) {
            return OUTSIDE;
        }
        return Key.numberAt(boxes[box].keyAt(i), elements, element);
    }

    public int find(int box, int i, int kind) {
        if (!isBox(box)) {
            return UNKNOWN;
        }
        if (!isKind(kind)) {
            return OUTSIDE;
        }
        if (!findings.canTellOf(kind)) {
            return NOT;
        }
        int refused = refusalAt(box, i);
        if (refused != 0) {
            return refused;
        }
        if (boxes[box].elementsAt(i) != now.size()) {
            return NONE;
        }
        return findings.ofKind(kind).indexOf(boxes[box].keyAt(i));
    }

    public int away(int box) {
        if (!isBox(box)) {
            return UNKNOWN;
        }
        if (boxes[box].isMissing()) {
            return NULL;
        }
        int had = boxes[box].vectors();
        boxes[box].vanish();
        return had;
    }

    public int count(int what) {
        switch (what) {
            case 0:
                return now.size();
            case 1:
                return now.triples();
            case 2:
                return now.bases();
            case 3:
                return Rules.badFives(now, 0, now.size());
            case 4:
                return findings.loops();
            case 5:
                return findings.parallels();
            case 6:
                return past.size();
            case 7:
                return text.length();
            case 8:
                return vectorsOnBoxes();
            default:
                return OUTSIDE;
        }
    }

    // ---- what the calls share

    /** To be called ahead of each deed that can be undone. */
    private void beginDeed() {
        past.remember(now);
        findings.forget();
    }

    /** Why the vector at a box's place can't be had; 0 if it can. */
    private int refusalAt(int box, int i) {
        if (!isBox(box)) {
            return UNKNOWN;
        }
        if (boxes[box].isMissing()) {
            return NULL;
        }
        if (!boxes[box].hasPlace(i)) {
            return INDEX;
        }
        return boxes[box].isEmptyAt(i) ? EMPTY : 0;
    }

    private int vectorsOnBoxes() {
        int all = 0;
        for (int b = 0; b < BOXES; b++) {
            all += boxes[b].vectors();
        }
        return all;
    }

    private static boolean isFar(int number) {
        return number < -FARTHEST || number > FARTHEST;
    }

    private static boolean isKind(int kind) {
        return kind >= 0 && kind < KINDS;
    }

    private static boolean isBox(int box) {
        return box >= 0 && box < BOXES;
    }

    private static boolean areDistinct(int a, int b, int c, int d, int e) {
        return Integer.bitCount(1 << a | 1 << b | 1 << c | 1 << d | 1 << e) == 5;
    }

    /** Elements, the signs of their triples, their points. */
    private static final class Arrangement {
        private static final int MOST = MOST_ELEMENTS;

        private int size;
        /** The sign of three elements in every order, so that none has to be sorted to be looked up. */
        private final int[] signs;
        private final int[] points;

        Arrangement() {
            signs = new int[MOST * MOST * MOST];
            points = new int[MOST * NUMBERS];
            begin(FEWEST_ELEMENTS);
            giveSign(0, 1, 2, 1);
        }

        /** That many elements with the points that they have at first; signs are for the caller to give. */
        void begin(int elements) {
            size = elements;
            for (int e = 0; e < size; e++) {
                givePoint(e, 1, e, e * e);
            }
        }

        void copy(Arrangement other) {
            size = other.size;
            System.arraycopy(other.signs, 0, signs, 0, signs.length);
            System.arraycopy(other.points, 0, points, 0, points.length);
        }

        int size() {
            return size;
        }

        boolean has(int element) {
            return element >= 0 && element < size;
        }

        int triples() {
            return triplesOf(size);
        }

        static int triplesOf(int elements) {
            return elements * (elements - 1) * (elements - 2) / 6;
        }

        int signOf(int a, int b, int c) {
            return signs[(a * MOST + b) * MOST + c];
        }

        private void giveInOrder(int a, int b, int c, int v) {
            signs[(a * MOST + b) * MOST + c] = v;
        }

        /** The three are unlike. */
        void giveSign(int a, int b, int c, int v) {
            giveInOrder(a, b, c, v);
            giveInOrder(b, c, a, v);
            giveInOrder(c, a, b, v);
            giveInOrder(a, c, b, -v);
            giveInOrder(c, b, a, -v);
            giveInOrder(b, a, c, -v);
        }

        int numberOf(int element, int i) {
            return points[element * NUMBERS + i];
        }

        boolean isAt(int element, int x, int y, int z) {
            return numberOf(element, 0) == x && numberOf(element, 1) == y && numberOf(element, 2) == z;
        }

        void givePoint(int element, int x, int y, int z) {
            points[element * NUMBERS] = x;
            points[element * NUMBERS + 1] = y;
            points[element * NUMBERS + 2] = z;
        }

        int turnOf(int p, int q, int r) {
            int turned = numberOf(p, 0) * minor(q, r, 1, 2)
                    - numberOf(p, 1) * minor(q, r, 0, 2)
                    + numberOf(p, 2) * minor(q, r, 0, 1);
            if (turned == 0) {
                return 0;
            }
            return turned > 0 ? 1 : -1;
        }

        private int minor(int q, int r, int i, int j) {
            return numberOf(q, i) * numberOf(r, j) - numberOf(q, j) * numberOf(r, i);
        }

        /** How many signs became others. */
        int reverse(int element) {
            givePoint(element, -numberOf(element, 0), -numberOf(element, 1), -numberOf(element, 2));
            int changed = 0;
            for (int a = 0; a < size; a++) {
                for (int b = a + 1; b < size; b++) {
                    if (a != element && b != element && signOf(element, a, b) != 0) {
                        giveSign(element, a, b, -signOf(element, a, b));
                        changed++;
                    }
                }
            }
            return changed;
        }

        /** Two elements trade their numbers: how many triples have another sign than they had. */
        int trade(int e, int f) {
            tradePoints(e, f);
            int changed = 0;
            for (int a = 0; a < size; a++) {
                if (a == e || a == f) {
                    continue;
                }
                if (signOf(e, f, a) != 0) {
                    giveSign(e, f, a, -signOf(e, f, a));
                    changed++;
                }
                for (int b = a + 1; b < size; b++) {
                    if (b != e && b != f) {
                        changed += tradeSigns(e, f, a, b);
                    }
                }
            }
            return changed;
        }

        private int tradeSigns(int e, int f, int a, int b) {
            int ofE = signOf(e, a, b);
            int ofF = signOf(f, a, b);
            giveSign(e, a, b, ofF);
            giveSign(f, a, b, ofE);
            return ofE == ofF ? 0 : 2;
        }

        private void tradePoints(int e, int f) {
            int x = numberOf(e, 0);
            int y = numberOf(e, 1);
            int z = numberOf(e, 2);
            givePoint(e, numberOf(f, 0), numberOf(f, 1), numberOf(f, 2));
            givePoint(f, x, y, z);
        }

        /** There are fewer than the most. */
        void append(int x, int y, int z) {
            int added = size;
            size++;
            givePoint(added, x, y, z);
            for (int a = 0; a < added; a++) {
                for (int b = a + 1; b < added; b++) {
                    giveSign(a, b, added, turnOf(a, b, added));
                }
            }
        }

        /** Room for one element more, of whose signs and point nothing is told yet. */
        void widen() {
            if (size < MOST) {
                size++;
            }
        }

        void remove(int element) {
            size--;
            for (int a = 0; a < size; a++) {
                int from = a < element ? a : a + 1;
                givePoint(a, numberOf(from, 0), numberOf(from, 1), numberOf(from, 2));
            }
            // Each sign comes from a triple not yet written over, as those with lower numbers come first.
            for (int a = 0; a < size; a++) {
                for (int b = a + 1; b < size; b++) {
                    for (int c = b + 1; c < size; c++) {
                        giveSign(a, b, c, signOf(a < element ? a : a + 1,
                                b < element ? b : b + 1, c < element ? c : c + 1));
                    }
                }
            }
        }

        /** All signs become those of the turns: how many became others. */
        int takeTurns() {
            int changed = 0;
            for (int a = 0; a < size; a++) {
                for (int b = a + 1; b < size; b++) {
                    for (int c = b + 1; c < size; c++) {
                        int drawn = turnOf(a, b, c);
                        changed += drawn == signOf(a, b, c) ? 0 : 1;
                        giveSign(a, b, c, drawn);
                    }
                }
            }
            return changed;
        }

        boolean isDrawn() {
            for (int a = 0; a < size; a++) {
                for (int b = a + 1; b < size; b++) {
                    for (int c = b + 1; c < size; c++) {
                        if (turnOf(a, b, c) != signOf(a, b, c)) {
                            return false;
                        }
                    }
                }
            }
            return true;
        }

        int bases() {
            int all = 0;
            for (int a = 0; a < size; a++) {
                for (int b = a + 1; b < size; b++) {
                    for (int c = b + 1; c < size; c++) {
                        all += signOf(a, b, c) == 0 ? 0 : 1;
                    }
                }
            }
            return all;
        }
    }

    /** The arrangements that can be gone back to by undo. */
    private static final class History {
        private static final int MOST = 8;

        private final Arrangement[] states;
        /** Where the next state goes; the rows are used round and round. */
        private int next;
        private int size;

        History() {
            states = new Arrangement[MOST];
            for (int i = 0; i < MOST; i++) {
                states[i] = new Arrangement();
            }
        }

        int size() {
            return size;
        }

        void clear() {
            size = 0;
        }

        void remember(Arrangement state) {
            states[next].copy(state);
            next = next + 1 < MOST ? next + 1 : 0;
            size = size < MOST ? size + 1 : MOST;
        }

        /** There is one. */
        void takeLatest(Arrangement into) {
            next = next > 0 ? next - 1 : MOST - 1;
            size--;
            into.copy(states[next]);
        }
    }

    /** The small text and its reader. */
    private static final class Text {
        private static final int MOST_LETTERS = 200;
        private static final int MOST_CLAUSES = 24;

        private final int[] letters;
        private int length;
        /** The token that is read now: from its begin up to its end; both the length behind the last one. */
        private int begin;
        private int end;
        /** The number that was read last. */
        private int value;
        private int clauses;

        Text() {
            letters = new int[MOST_LETTERS];
        }

        int length() {
            return length;
        }

        boolean isFull() {
            return length >= MOST_LETTERS;
        }

        /** It is not full. */
        void append(int letter) {
            letters[length] = letter;
            length++;
        }

        void clear() {
            length = 0;
        }

        /** How many clauses the last reading found. */
        int clauses() {
            return clauses;
        }

        /** Does the clauses onto an arrangement up to the first fault: its place, or NONE. */
        int read(Arrangement onto) {
            clauses = 0;
            end = 0;
            nextToken();
            for (int c = 0; c < MOST_CLAUSES; c++) {
                if (!readClause(onto)) {
                    return begin;
                }
                clauses++;
                if (begin >= length) {
                    return NONE;
                }
                if (letters[begin] != ';' || clauses == MOST_CLAUSES) {
                    return begin;
                }
                nextToken();
            }
            return begin;
        }

        private boolean readClause(Arrangement onto) {
            if (isWord("signs")) {
                return readSigns(onto);
            }
            if (isWord("point")) {
                return readPoint(onto);
            }
            if (isWord("flip")) {
                return readFlip(onto);
            }
            if (isWord("swap")) {
                return readSwap(onto);
            }
            return readDraw(onto);
        }

        private boolean readSigns(Arrangement onto) {
            nextToken();
            if (!readNumber(FEWEST_ELEMENTS, MOST_ELEMENTS)) {
                return false;
            }
            int elements = value;
            if (!isSignWord(Arrangement.triplesOf(elements))) {
                return false;
            }
            onto.begin(elements);
            int at = begin;
            for (int a = 0; a < elements; a++) {
                for (int b = a + 1; b < elements; b++) {
                    for (int c = b + 1; c < elements && at < end; c++) {
                        onto.giveSign(a, b, c, signTold(letters[at]));
                        at++;
                    }
                }
            }
            nextToken();
            return true;
        }

        private boolean readPoint(Arrangement onto) {
            nextToken();
            if (!readNumber(0, onto.size() - 1)) {
                return false;
            }
            int element = value;
            if (!readCoordinate()) {
                return false;
            }
            int x = value;
            if (!readCoordinate()) {
                return false;
            }
            int y = value;
            if (!readCoordinate()) {
                return false;
            }
            onto.givePoint(element, x, y, value);
            return true;
        }

        private boolean readFlip(Arrangement onto) {
            nextToken();
            if (!readNumber(0, onto.size() - 1)) {
                return false;
            }
            onto.reverse(value);
            return true;
        }

        private boolean readSwap(Arrangement onto) {
            nextToken();
            if (!readNumber(0, onto.size() - 1)) {
                return false;
            }
            int element = value;
            int place = begin;
            int placeEnd = end;
            if (!readNumber(0, onto.size() - 1)) {
                return false;
            }
            if (value == element) {
                begin = place;
                end = placeEnd;
                return false;
            }
            onto.trade(element, value);
            return true;
        }

        private boolean readDraw(Arrangement onto) {
            if (!isWord("draw")) {
                return false;
            }
            nextToken();
            onto.takeTurns();
            return true;
        }

        private boolean readCoordinate() {
            boolean minus = begin < length && letters[begin] == '-';
            if (minus) {
                nextToken();
            }
            if (!readNumber(0, FARTHEST)) {
                return false;
            }
            value = minus ? -value : value;
            return true;
        }

        /** Steps over the token, if it is a number within the bounds, and leaves its value. */
        private boolean readNumber(int low, int high) {
            int digits = end - begin;
            if (begin >= length || !isDigit(letters[begin]) || digits > 2) {
                return false;
            }
            int told = 0;
            for (int i = begin; i < end; i++) {
                told = told * 10 + letters[i] - '0';
            }
            if (told < low || told > high) {
                return false;
            }
            value = told;
            nextToken();
            return true;
        }

        private boolean isWord(String word) {
            if (end - begin != word.length()) {
                return false;
            }
            for (int i = begin; i < end; i++) {
                if (letters[i] != word.charAt(i - begin)) {
                    return false;
                }
            }
            return true;
        }

        private boolean isSignWord(int signs) {
            if (end - begin != signs) {
                return false;
            }
            for (int i = begin; i < end; i++) {
                if (letters[i] != 'u' && letters[i] != 'o' && letters[i] != 'd') {
                    return false;
                }
            }
            return true;
        }

        private static int signTold(int letter) {
            if (letter == 'u') {
                return 1;
            }
            return letter == 'd' ? -1 : 0;
        }

        private void nextToken() {
            begin = end;
            while (begin < length && letters[begin] == ' ') {
                begin++;
            }
            end = begin;
            if (begin >= length) {
                return;
            }
            end++;
            if (isSmall(letters[begin])) {
                while (end < length && isSmall(letters[end])) {
                    end++;
                }
            } else if (isDigit(letters[begin])) {
                while (end < length && isDigit(letters[end])) {
                    end++;
                }
            }
        }

        private static boolean isSmall(int letter) {
            return letter >= 'a' && letter <= 'z';
        }

        private static boolean isDigit(int letter) {
            return letter >= '0' && letter <= '9';
        }
    }

    /**
     * A vector in one number: to each element a digit of two bits, its sign and 1, the first element's foremost;
     * so the greater vector has the greater number, and a digit's low bit is set at zeros alone.
     */
    private static final class Key {
        private static final int LOW_BITS = 0x555;

        private Key() {
        }

        static int zero(int elements) {
            return LOW_BITS & (1 << 2 * elements) - 1;
        }

        static int withNumber(int key, int sign) {
            return key << 2 | sign + 1;
        }

        static int numberAt(int key, int elements, int element) {
            return (key >> 2 * (elements - 1 - element) & 3) - 1;
        }

        static int opposite(int key, int zero) {
            return 2 * zero - key;
        }

        static int composed(int x, int y) {
            int open = 3 * (x & LOW_BITS);
            return x & ~open | y & open;
        }

        static int zeros(int key) {
            return Integer.bitCount(key & LOW_BITS);
        }

        /** A bit to each element at which two are unlike. */
        static int separation(int x, int y) {
            int unlike = x ^ y;
            return (unlike | unlike >> 1) & LOW_BITS;
        }
    }

    /** Vectors of one kind, each one once: in the order in which they came until they are sorted. */
    private static final class VectorRow {
        /** As many as there can be of six elements. */
        private static final int MOST = 729;
        private static final int WORDS = 128;
        private static final int WORD = 32;

        private final int[] keys;
        /** A bit to each key that is in the row. */
        private final int[] words;
        private int length;

        VectorRow() {
            keys = new int[MOST];
            words = new int[WORDS];
        }

        int length() {
            return length;
        }

        boolean has(int k) {
            return k >= 0 && k < length;
        }

        int at(int k) {
            return keys[k];
        }

        void clear() {
            length = 0;
            Arrays.fill(words, 0);
        }

        void insert(int key) {
            int bit = 1 << key % WORD;
            if ((words[key / WORD] & bit) == 0 && length < MOST) {
                words[key / WORD] |= bit;
                keys[length] = key;
                length++;
            }
        }

        /** From the greatest. */
        void sort() {
            int k = 0;
            for (int w = WORDS - 1; w >= 0; w--) {
                for (int bit = WORD - 1; bit >= 0 && words[w] != 0; bit--) {
                    if ((words[w] & 1 << bit) != 0 && k < length) {
                        keys[k] = w * WORD + bit;
                        k++;
                    }
                }
            }
        }

        int indexOf(int key) {
            for (int k = 0; k < length; k++) {
                if (keys[k] == key) {
                    return k;
                }
            }
            return NONE;
        }
    }

    /** Whether signs can be at all. */
    private static final class Rules {
        private static final int MOST_BASES = 20;
        private static final int SETS = 1 << MOST_ELEMENTS;

        /** Sets of elements, a bit to each. */
        private final boolean[] isBase;
        private final int[] bases;
        private int length;

        Rules() {
            isBase = new boolean[SETS];
            bases = new int[MOST_BASES];
        }

        boolean areOrderly(Arrangement x) {
            return badFives(x, 0, x.size()) == 0 && haveExchange(x);
        }

        boolean haveExchange(Arrangement x) {
            gather(x);
            for (int i = 0; i < length; i++) {
                for (int j = 0; j < length; j++) {
                    if (!canExchange(bases[i], bases[j])) {
                        return false;
                    }
                }
            }
            return length > 0;
        }

        private void gather(Arrangement x) {
            length = 0;
            for (int s = 0; s < SETS; s++) {
                isBase[s] = false;
            }
            for (int a = 0; a < x.size(); a++) {
                for (int b = a + 1; b < x.size(); b++) {
                    for (int c = b + 1; c < x.size(); c++) {
                        if (x.signOf(a, b, c) != 0 && length < MOST_BASES) {
                            bases[length] = 1 << a | 1 << b | 1 << c;
                            isBase[bases[length]] = true;
                            length++;
                        }
                    }
                }
            }
        }

        private boolean canExchange(int base, int other) {
            for (int out = 1; out < SETS; out <<= 1) {
                if ((out & base & ~other) != 0 && !isMended(base & ~out, other & ~base)) {
                    return false;
                }
            }
            return true;
        }

        private boolean isMended(int rest, int choice) {
            for (int in = 1; in < SETS; in <<= 1) {
                if ((in & choice) != 0 && isBase[rest | in]) {
                    return true;
                }
            }
            return false;
        }

        int loops(Arrangement x) {
            gather(x);
            int covered = 0;
            for (int i = 0; i < length; i++) {
                covered |= bases[i];
            }
            return (1 << x.size()) - 1 & ~covered;
        }

        int parallels(Arrangement x) {
            int loops = loops(x);
            int pairs = 0;
            for (int a = 0; a < x.size(); a++) {
                for (int b = a + 1; b < x.size(); b++) {
                    int pair = 1 << a | 1 << b;
                    if ((pair & loops) == 0 && !isInBase(pair)) {
                        pairs++;
                    }
                }
            }
            return pairs;
        }

        private boolean isInBase(int set) {
            for (int i = 0; i < length; i++) {
                if ((bases[i] & set) == set) {
                    return true;
                }
            }
            return false;
        }

        static boolean isGood(Arrangement x, int a, int b, int c, int d, int e) {
            int first = x.signOf(a, b, c) * x.signOf(a, d, e);
            int second = -x.signOf(a, b, d) * x.signOf(a, c, e);
            int third = x.signOf(a, b, e) * x.signOf(a, c, d);
            int high = Math.max(first, Math.max(second, third));
            int low = Math.min(first, Math.min(second, third));
            return high == 0 && low == 0 || high > 0 && low < 0;
        }

        /** How many are not good of the fives of the elements from one up to another one. */
        static int badFives(Arrangement x, int from, int to) {
            int bad = 0;
            for (int a = from; a < to; a++) {
                for (int b = 0; b < x.size(); b++) {
                    for (int c = b + 1; c < x.size(); c++) {
                        for (int d = c + 1; d < x.size(); d++) {
                            for (int e = d + 1; e < x.size(); e++) {
                                boolean told = a != b && a != c && a != d && a != e;
                                bad += told && !isGood(x, a, b, c, d, e) ? 1 : 0;
                            }
                        }
                    }
                }
            }
            return bad;
        }
    }

    /** The vectors of each kind, each found once and kept until they are forgotten. */
    private static final class Vectors {
        private final VectorRow[] kinds;
        private final boolean[] isKnown;

        Vectors() {
            kinds = new VectorRow[KINDS];
            isKnown = new boolean[KINDS];
            for (int kind = 0; kind < KINDS; kind++) {
                kinds[kind] = new VectorRow();
            }
        }

        void forget() {
            for (int kind = 0; kind < KINDS; kind++) {
                isKnown[kind] = false;
            }
        }

        VectorRow cocircuits(Arrangement x) {
            VectorRow row = kinds[COCIRCUITS];
            if (isKnown[COCIRCUITS]) {
                return row;
            }
            row.clear();
            int zero = Key.zero(x.size());
            for (int a = 0; a < x.size(); a++) {
                for (int b = a + 1; b < x.size(); b++) {
                    insertBoth(row, cocircuit(x, a, b), zero);
                }
            }
            row.sort();
            isKnown[COCIRCUITS] = true;
            return row;
        }

        private static int cocircuit(Arrangement x, int a, int b) {
            int key = 0;
            for (int e = 0; e < x.size(); e++) {
                key = Key.withNumber(key, x.signOf(a, b, e));
            }
            return key;
        }

        VectorRow circuits(Arrangement x) {
            VectorRow row = kinds[CIRCUITS];
            if (isKnown[CIRCUITS]) {
                return row;
            }
            row.clear();
            int zero = Key.zero(x.size());
            for (int a = 0; a < x.size(); a++) {
                for (int b = a + 1; b < x.size(); b++) {
                    for (int c = b + 1; c < x.size(); c++) {
                        for (int d = c + 1; d < x.size(); d++) {
                            insertBoth(row, circuit(x, a, b, c, d), zero);
                        }
                    }
                }
            }
            row.sort();
            isKnown[CIRCUITS] = true;
            return row;
        }

        private static int circuit(Arrangement x, int a, int b, int c, int d) {
            int key = 0;
            for (int e = 0; e < x.size(); e++) {
                int sign = 0;
                if (e == a) {
                    sign = x.signOf(b, c, d);
                } else if (e == b) {
                    sign = -x.signOf(a, c, d);
                } else if (e == c) {
                    sign = x.signOf(a, b, d);
                } else if (e == d) {
                    sign = -x.signOf(a, b, c);
                }
                key = Key.withNumber(key, sign);
            }
            return key;
        }

        private static void insertBoth(VectorRow row, int key, int zero) {
            if (key != zero) {
                row.insert(key);
                row.insert(Key.opposite(key, zero));
            }
        }

        /**
         * Whatever is composed of covectors is composed of cocircuits, one behind the other;
         * so each covector needs to be composed with the cocircuits alone.
         */
        VectorRow covectors(Arrangement x) {
            VectorRow row = kinds[COVECTORS];
            if (isKnown[COVECTORS]) {
                return row;
            }
            VectorRow cocircuits = cocircuits(x);
            row.clear();
            row.insert(Key.zero(x.size()));
            for (int i = 0; i < row.length() && i < VectorRow.MOST; i++) {
                for (int c = 0; c < cocircuits.length(); c++) {
                    row.insert(Key.composed(row.at(i), cocircuits.at(c)));
                }
            }
            row.sort();
            isKnown[COVECTORS] = true;
            return row;
        }

        VectorRow topes(Arrangement x) {
            VectorRow row = kinds[TOPES];
            if (isKnown[TOPES]) {
                return row;
            }
            VectorRow covectors = covectors(x);
            int fewest = x.size();
            for (int k = 0; k < covectors.length(); k++) {
                fewest = Math.min(fewest, Key.zeros(covectors.at(k)));
            }
            row.clear();
            for (int k = 0; k < covectors.length(); k++) {
                if (Key.zeros(covectors.at(k)) == fewest) {
                    row.insert(covectors.at(k));
                }
            }
            isKnown[TOPES] = true;
            return row;
        }
    }

    /** Which topes are next to one another. */
    private static final class TopeGraph {
        /** Topes have zeros at the loops alone, so six elements have no more. */
        private static final int MOST = 64;

        /** To each tope the ones next to it, a bit to each. */
        private final long[] next;
        private int length;

        TopeGraph() {
            next = new long[MOST];
        }

        void build(VectorRow topes) {
            length = Math.min(topes.length(), MOST);
            for (int i = 0; i < length; i++) {
                next[i] = 0;
                for (int j = 0; j < length; j++) {
                    if (i != j && !isSomeBetween(topes, i, j)) {
                        next[i] |= 1L << j;
                    }
                }
            }
        }

        private boolean isSomeBetween(VectorRow topes, int i, int j) {
            int parted = Key.separation(topes.at(i), topes.at(j));
            for (int third = 0; third < length; third++) {
                int partedToo = Key.separation(topes.at(third), topes.at(j));
                if (third != i && third != j && (partedToo & ~parted) == 0) {
                    return true;
                }
            }
            return false;
        }

        private boolean has(int tope) {
            return tope >= 0 && tope < length;
        }

        int neighbours(int tope) {
            return has(tope) ? Long.bitCount(next[tope]) : 0;
        }

        boolean isNext(int tope, int other) {
            return has(tope) && has(other) && (next[tope] >> other & 1) != 0;
        }

        int steps(int from, int to) {
            if (!has(from) || !has(to)) {
                return NONE;
            }
            long reached = 1L << from;
            for (int steps = 0; steps < MOST; steps++) {
                if ((reached >> to & 1) != 0) {
                    return steps;
                }
                reached |= nextToAny(reached);
            }
            return NONE;
        }

        private long nextToAny(long topes) {
            long around = 0;
            for (int i = 0; i < length; i++) {
                if ((topes >> i & 1) != 0) {
                    around |= next[i];
                }
            }
            return around;
        }
    }

    /** What would be, if something were otherwise; tried on an arrangement of its own. */
    private static final class Foretelling {
        private static final int MOST_TO_EXTEND = 4;

        private final Arrangement trial;

        Foretelling() {
            trial = new Arrangement();
        }

        /** The triples that are mutations, a bit to each, by their numbers; all is orderly. */
        int mutations(Arrangement x) {
            trial.copy(x);
            int found = 0;
            int triple = 0;
            for (int a = 0; a < x.size(); a++) {
                for (int b = a + 1; b < x.size(); b++) {
                    for (int c = b + 1; c < x.size(); c++) {
                        found |= isMutation(a, b, c) ? 1 << triple : 0;
                        triple++;
                    }
                }
            }
            return found;
        }

        /** The bases stay what they are, and with them the exchange; so the fives alone are asked. */
        private boolean isMutation(int a, int b, int c) {
            int sign = trial.signOf(a, b, c);
            if (sign == 0) {
                return false;
            }
            trial.giveSign(a, b, c, -sign);
            boolean stays = Rules.badFives(trial, 0, trial.size()) == 0;
            trial.giveSign(a, b, c, sign);
            return stays;
        }

        int extensionWays(Arrangement x, Rules rules) {
            if (x.size() > MOST_TO_EXTEND) {
                return 0;
            }
            trial.copy(x);
            trial.widen();
            return ways(trial, rules, 0, 1);
        }

        /**
         * In how many ways the signs of the new element with the pairs from a, b on can be told.
         * Each level goes to a later pair, and of four elements there are six.
         */
        private static int ways(Arrangement trial, Rules rules, int a, int b) {
            int added = trial.size() - 1;
            if (a >= added - 1 || b >= added) {
                return rules.areOrderly(trial) ? 1 : 0;
            }
            int all = 0;
            for (int sign = -1; sign <= 1; sign++) {
                trial.giveSign(a, b, added, sign);
                if (b < added - 1) {
                    all += ways(trial, rules, a, b + 1);
                } else if (Rules.badFives(trial, a, a + 1) == 0) {
                    // All pairs with a are told by now, so its fives stay as they are.
                    all += ways(trial, rules, a + 1, a + 2);
                }
            }
            return all;
        }
    }

    /** What follows from the signs, each found once and kept until the signs may have changed. */
    private static final class Findings {
        private static final int NOT_YET = -1;

        private final Arrangement now;
        private final Rules rules;
        private final Vectors vectors;
        private final TopeGraph graph;
        private final Foretelling foretelling;
        private boolean isOrderKnown;
        private boolean isOrderly;
        private boolean isGraphKnown;
        private int mutations;
        private int extensionWays;

        Findings(Arrangement now) {
            this.now = now;
            rules = new Rules();
            vectors = new Vectors();
            graph = new TopeGraph();
            foretelling = new Foretelling();
            mutations = NOT_YET;
            extensionWays = NOT_YET;
        }

        void forget() {
            isOrderKnown = false;
            isGraphKnown = false;
            mutations = NOT_YET;
            extensionWays = NOT_YET;
            vectors.forget();
        }

        boolean hasExchange() {
            return rules.haveExchange(now);
        }

        boolean isOrderly() {
            if (!isOrderKnown) {
                isOrderly = rules.areOrderly(now);
                isOrderKnown = true;
            }
            return isOrderly;
        }

        int loops() {
            return rules.loops(now);
        }

        int parallels() {
            return rules.parallels(now);
        }

        boolean canTellOf(int kind) {
            return kind == COCIRCUITS || kind == CIRCUITS || isOrderly();
        }

        /** Of covectors and topes all is orderly. */
        VectorRow ofKind(int kind) {
            switch (kind) {
                case COCIRCUITS:
                    return vectors.cocircuits(now);
                case CIRCUITS:
                    return vectors.circuits(now);
                case COVECTORS:
                    return vectors.covectors(now);
                default:
                    return vectors.topes(now);
            }
        }

        TopeGraph graph() {
            if (!isGraphKnown) {
                graph.build(ofKind(TOPES));
                isGraphKnown = true;
            }
            return graph;
        }

        int mutations() {
            if (mutations == NOT_YET) {
                mutations = foretelling.mutations(now);
            }
            return mutations;
        }

        int extensionWays() {
            if (extensionWays == NOT_YET) {
                extensionWays = foretelling.extensionWays(now, rules);
            }
            return extensionWays;
        }
    }

    /** Places for vectors; a missing box keeps its rows for the next one. */
    private static final class Box {
        private boolean isThere;
        private boolean isForFull;
        private int places;
        private final int[] keys;
        /** Of how many elements each place's vector tells; 0 at an empty place. */
        private final int[] elements;

        Box() {
            keys = new int[PLACES];
            elements = new int[PLACES];
        }

        void make(boolean forFull, int n) {
            isThere = true;
            isForFull = forFull;
            places = n;
            Arrays.fill(elements, 0);
        }

        void vanish() {
            isThere = false;
            places = 0;
        }

        boolean isMissing() {
            return !isThere;
        }

        boolean hasPlace(int i) {
            return i >= 0 && i < places;
        }

        boolean isEmptyAt(int i) {
            return elements[i] == 0;
        }

        boolean isMadeFor(int key) {
            return !isForFull || Key.zeros(key) == 0;
        }

        void put(int i, int key, int ofElements) {
            keys[i] = key;
            elements[i] = ofElements;
        }

        int keyAt(int i) {
            return keys[i];
        }

        int elementsAt(int i) {
            return elements[i];
        }

        int vectors() {
            int held = 0;
            for (int i = 0; i < places; i++) {
                held += isEmptyAt(i) ? 0 : 1;
            }
            return held;
        }
    }
}
