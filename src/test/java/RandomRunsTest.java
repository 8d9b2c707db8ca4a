import java.util.ArrayDeque;
import java.util.ArrayList;
import java.util.Arrays;
import java.util.Collections;
import java.util.Comparator;
import java.util.HashMap;
import java.util.LinkedHashSet;
import java.util.List;
import java.util.Map;
import java.util.Set;
import java.util.TreeSet;
import java.util.regex.Matcher;
import java.util.regex.Pattern;

/** Many runs of calls, each answer compared with that of a second program, written from the document's words alone. */
public final class RandomRunsTest {
    private static final int RUNS = 300;
    private static final int CALLS = 512;
    private static int wrong = 0;

    public static void main(String[] args) {
        for (int run = 0; run < RUNS && wrong < 10; run++) {
            new Run(run).go();
        }
        System.out.println(wrong == 0 ? "random runs: all answers are as due" : "random runs: " + wrong + " runs went wrong");
        if (wrong != 0) {
            System.exit(1);
        }
    }

    /** One run: the same calls on both programs until they differ. */
    private static final class Run {
        final int number;
        final SignTriples program = new SignTriples();
        final Oracle oracle = new Oracle();
        final List<String> calls = new ArrayList<>();
        final Dice dice;
        boolean differs = false;

        Run(int number) {
            this.number = number;
            dice = new Dice(number * 7919L + 17);
        }

        void go() {
            int mood = number % 7;
            while (calls.size() < CALLS && !differs) {
                int n = oracle.state.n;
                switch (mood == 0 ? dice.below(10) : mood) {
                    case 1 -> text(dice.below(3) == 0);
                    case 2 -> deed();
                    case 3 -> { deed(); finding(); }
                    case 4 -> boxes();
                    case 5 -> { if (dice.below(4) == 0) { orderly(); } else { finding(); boxes(); } }
                    case 6 -> { if (dice.below(3) == 0) { orderly(); } if (n < 5) { add(); } finding(); deed(); }
                    default -> anything();
                }
                if (mood != 0 && dice.below(6) == 0) {
                    anything();
                }
            }
        }

        void check(String call, int got, int due) {
            calls.add(call + " answered " + got);
            // What a 513th call answers is free.
            if (got != due && !differs && calls.size() <= CALLS) {
                differs = true;
                wrong++;
                System.out.println("run " + number + ", call " + calls.size() + ": " + call + " answered " + got + ", due is " + due);
                for (int i = Math.max(0, calls.size() - 12); i < calls.size(); i++) {
                    System.out.println("    " + calls.get(i));
                }
            }
        }

        int el() {
            return dice.below(20) == 0 ? dice.odd() : dice.below(oracle.state.n);
        }

        int num(int low, int high) {
            return dice.below(25) == 0 ? dice.odd() : low + dice.below(high - low + 1);
        }

        int coordinate() {
            return switch (dice.below(12)) {
                case 0 -> dice.odd();
                case 1 -> 99 + dice.below(2);
                case 2 -> -99 - dice.below(2);
                case 3, 4 -> dice.below(199) - 99;
                default -> dice.below(5) - 2;
            };
        }

        void anything() {
            switch (dice.below(6)) {
                case 0 -> text(false);
                case 1 -> deed();
                case 2, 3 -> finding();
                default -> boxes();
            }
            if (dice.below(5) == 0) {
                told();
            }
        }

        void told() {
            int a = el(), b = el(), c = el();
            check("sign " + a + " " + b + " " + c, program.sign(a, b, c), oracle.sign(a, b, c));
            check("turn " + a + " " + b + " " + c, program.turn(a, b, c), oracle.turn(a, b, c));
            int i = num(0, 2);
            check("point " + a + " " + i, program.point(a, i), oracle.point(a, i));
        }

        void add() {
            int x = coordinate(), y = coordinate(), z = coordinate();
            check("add " + x + " " + y + " " + z, program.add(x, y, z), oracle.add(x, y, z));
        }

        void deed() {
            int a = el(), b = el(), c = el();
            int x = coordinate(), y = coordinate(), z = coordinate();
            switch (dice.below(12)) {
                case 0, 1 -> { int v = num(-1, 1); check("set " + a + " " + b + " " + c + " " + v, program.set(a, b, c, v), oracle.set(a, b, c, v)); }
                case 2 -> check("place " + a + " " + x + " " + y + " " + z, program.place(a, x, y, z), oracle.place(a, x, y, z));
                case 3 -> check("flip " + a, program.flip(a), oracle.flip(a));
                case 4 -> check("swap " + a + " " + b, program.swap(a, b), oracle.swap(a, b));
                case 5, 6 -> add();
                case 7 -> check("drop " + a, program.drop(a), oracle.drop(a));
                case 8 -> check("draw", program.draw(), oracle.draw());
                case 9 -> check("undo", program.undo(), oracle.undo());
                case 10 -> { int k = num(0, 1); check("keep " + k, program.keep(k), oracle.keep(k)); }
                default -> { int k = num(0, 1); check("back " + k, program.back(k), oracle.back(k)); }
            }
        }

        void orderly() {
            if (dice.below(2) == 0) {
                int a = dice.below(oracle.state.n);
                int x = dice.below(5) - 2, y = dice.below(5) - 2, z = dice.below(5) - 2;
                check("place " + a + " " + x + " " + y + " " + z, program.place(a, x, y, z), oracle.place(a, x, y, z));
            }
            check("draw", program.draw(), oracle.draw());
        }

        void finding() {
            switch (dice.below(8)) {
                case 0 -> {
                    int a = el(), b = el(), c = el(), d = el(), e = el();
                    if (oracle.state.n >= 5 && dice.below(3) > 0) {
                        List<Integer> p = dice.shuffled(oracle.state.n);
                        a = p.get(0);
                        b = p.get(1);
                        c = p.get(2);
                        d = p.get(3);
                        e = p.get(4);
                    }
                    check("five " + a + b + c + d + e, program.five(a, b, c, d, e), oracle.five(a, b, c, d, e));
                }
                case 1 -> { int w = num(0, 3); check("is " + w, program.is(w), oracle.is(w)); }
                case 2, 3 -> {
                    int kind = num(0, 3);
                    int k = dice.below(3) == 0 ? -1 : num(-2, kind == 2 ? 125 : 35);
                    int e = el();
                    check("vector " + kind + " " + k + " " + e, program.vector(kind, k, e), oracle.vector(kind, k, e));
                    if (dice.below(5) == 0) {
                        for (int i = 0; i < oracle.size(kind); i++) {
                            e = el();
                            check("vector " + kind + " " + i + " " + e, program.vector(kind, i, e), oracle.vector(kind, i, e));
                        }
                    }
                }
                case 4 -> { int t = tope(); check("beside " + t, program.beside(t), oracle.beside(t)); }
                case 5 -> {
                    int t = tope(), u = tope(), w = num(0, 2);
                    check("between " + t + " " + u + " " + w, program.between(t, u, w), oracle.between(t, u, w));
                }
                case 6 -> { int t = num(-1, 20); check("mutation " + t, program.mutation(t), oracle.mutation(t)); }
                default -> {
                    if (dice.below(3) == 0) {
                        check("extensions", program.extensions(), oracle.extensions());
                    }
                }
            }
            int w = num(0, 8);
            check("count " + w, program.count(w), oracle.count(w));
        }

        int tope() {
            int topes = oracle.size(3);
            return topes > 0 && dice.below(8) > 0 ? dice.below(topes) : num(-1, 33);
        }

        void boxes() {
            int box = num(0, 2), i = num(0, 3), j = num(0, 3), kind = num(0, 3);
            boolean missing = box >= 0 && box <= 2 && oracle.boxes[box] == null;
            switch (missing && dice.below(3) == 0 ? 0 : dice.below(10)) {
                case 0 -> {
                    int sort = num(0, 3) / 3, n = dice.below(5) == 0 ? num(-2, 8) : num(3, 6);
                    check("box " + box + " " + sort + " " + n, program.box(box, sort, n), oracle.box(box, sort, n));
                }
                case 1, 2, 3 -> {
                    int k = oracle.size(kind) > 0 && dice.below(9) > 0 ? dice.below(oracle.size(kind)) : num(-1, 124);
                    check("lay " + box + " " + i + " " + kind + " " + k, program.lay(box, i, kind, k), oracle.lay(box, i, kind, k));
                }
                case 4, 5 -> check("compose " + box + " " + i + " " + j, program.compose(box, i, j), oracle.compose(box, i, j));
                case 6, 7 -> {
                    int e = num(0, 6);
                    check("seen " + box + " " + i + " " + e, program.seen(box, i, e), oracle.seen(box, i, e));
                }
                case 8 -> check("find " + box + " " + i + " " + kind, program.find(box, i, kind), oracle.find(box, i, kind));
                default -> {
                    if (dice.below(3) == 0) {
                        check("away " + box, program.away(box), oracle.away(box));
                    }
                    check("count 8", program.count(8), oracle.count(8));
                }
            }
        }

        void text(boolean spoilt) {
            String text = new Author(dice, oracle.state.n).text(spoilt);
            for (int i = 0; i < text.length(); i++) {
                check("write " + text.charAt(i), program.write(text.charAt(i)), oracle.write(text.charAt(i)));
                if (dice.below(40) == 0) {
                    check("fault", program.fault(), oracle.fault());
                }
            }
            if (dice.below(30) == 0) {
                int letter = dice.below(2) == 0 ? dice.odd() : 254 + dice.below(3);
                check("write " + letter, program.write(letter), oracle.write(letter));
            }
            check("fault of '" + oracle.text + "'", program.fault(), oracle.fault());
            if (dice.below(4) > 0) {
                check("tell", program.tell(), oracle.tell());
            }
            if (dice.below(3) > 0) {
                check("erase", program.erase(), oracle.erase());
            }
        }
    }

    /** Numbers that are the same on each run. */
    private static final class Dice {
        private static final int[] ODD = {-1, -2, -3, 3, 4, 5, 6, 7, 8, 9, 20, 99, 100, -99, -100, 255, 256, 1000, -1001,
            Integer.MAX_VALUE, Integer.MIN_VALUE, Integer.MAX_VALUE - 1, Integer.MIN_VALUE + 1, 1 << 16, 31, 32, 33, 64};
        private long state;

        Dice(long seed) {
            state = seed;
        }

        int below(int bound) {
            state = state * 6364136223846793005L + 1442695040888963407L;
            return (int) ((state >>> 33) % bound);
        }

        int odd() {
            return ODD[below(ODD.length)];
        }

        List<Integer> shuffled(int n) {
            List<Integer> all = new ArrayList<>();
            for (int i = 0; i < n; i++) {
                all.add(below(all.size() + 1), i);
            }
            return all;
        }
    }

    /** Writes texts, most of them without a fault, if they are not to be spoilt. */
    private static final class Author {
        private static final String STRAY = "0123456789;- -; uodAZ\t\n{`/:\u00ff\u0000aswz";
        private final Dice dice;
        private int n;

        Author(Dice dice, int n) {
            this.dice = dice;
            this.n = n;
        }

        String text(boolean spoilt) {
            StringBuilder text = new StringBuilder();
            int clauses = dice.below(20) == 0 ? 23 + dice.below(4) : 1 + dice.below(5);
            for (int c = 0; c < clauses; c++) {
                if (c > 0) {
                    text.append(gap(false)).append(';');
                }
                text.append(clauses > 20 ? "draw" : clause());
            }
            text.append(gap(false));
            if (spoilt) {
                spoil(text);
            }
            return text.toString();
        }

        private String gap(boolean needed) {
            return " ".repeat((needed ? 1 : 0) + (dice.below(4) == 0 ? dice.below(3) : 0));
        }

        private String element() {
            int e = dice.below(40) == 0 ? dice.below(8) : dice.below(n);
            return (dice.below(6) == 0 ? "0" : "") + e;
        }

        private String clause() {
            switch (dice.below(6)) {
                case 0: {
                    n = 3 + dice.below(4);
                    StringBuilder word = new StringBuilder();
                    for (int i = 0; i < n * (n - 1) * (n - 2) / 6; i++) {
                        word.append("uuuod".charAt(dice.below(5)));
                    }
                    return gap(false) + "signs" + gap(false) + n + gap(false) + word;
                }
                case 1:
                case 2: {
                    StringBuilder told = new StringBuilder(gap(false) + "point" + gap(false) + element());
                    for (int i = 0; i < 3; i++) {
                        boolean minus = dice.below(2) == 0;
                        String number = "" + (dice.below(4) == 0 ? dice.below(100) : dice.below(4));
                        told.append(minus ? gap(false) + "-" + gap(false) + number : gap(true) + number);
                    }
                    return told.toString();
                }
                case 3:
                    return gap(false) + "flip" + gap(false) + element();
                case 4:
                    return gap(false) + "swap" + gap(false) + element() + gap(true) + element();
                default:
                    return gap(false) + "draw";
            }
        }

        private void spoil(StringBuilder text) {
            for (int times = 1 + dice.below(2); times > 0 && text.length() > 0; times--) {
                int at = dice.below(text.length());
                switch (dice.below(4)) {
                    case 0 -> text.deleteCharAt(at);
                    case 1 -> text.insert(at, STRAY.charAt(dice.below(STRAY.length())));
                    case 2 -> text.setLength(at);
                    default -> text.setCharAt(at, (char) dice.below(256));
                }
            }
        }
    }

    /** What there is at one time; never changed, but by one who made a copy. */
    private static final class State {
        int n = 3;
        Map<Set<Integer>, Integer> signs = new HashMap<>();
        List<int[]> points = new ArrayList<>();

        State() {
            signs.put(Set.of(0, 1, 2), 1);
            for (int e = 0; e < 3; e++) {
                points.add(new int[] {1, e, e * e});
            }
        }

        State(State other) {
            n = other.n;
            signs = new HashMap<>(other.signs);
            for (int[] p : other.points) {
                points.add(p.clone());
            }
        }

        boolean has(int... elements) {
            return Arrays.stream(elements).allMatch(e -> e >= 0 && e < n);
        }

        /** The triples of so many elements, by their numbers, listed once. */
        private static final Map<Integer, List<List<Integer>>> TRIPLES = new HashMap<>();

        List<List<Integer>> triples() {
            return TRIPLES.computeIfAbsent(n, k -> choices(range(k), 3));
        }

        int sign(int... e) {
            if (e[0] == e[1] || e[0] == e[2] || e[1] == e[2]) {
                return 0;
            }
            return signs.get(Set.of(e[0], e[1], e[2])) * order(e);
        }

        void put(int v, int... e) {
            signs.put(Set.of(e[0], e[1], e[2]), v * order(e));
        }

        static int order(int... e) {
            int way = 1;
            for (int i = 0; i < 3; i++) {
                for (int j = i + 1; j < 3; j++) {
                    way = e[i] > e[j] ? -way : way;
                }
            }
            return way;
        }

        int turn(int... e) {
            long all = 0;
            for (int[] way : new int[][] {{0, 1, 2, 1}, {1, 2, 0, 1}, {2, 0, 1, 1}, {0, 2, 1, -1}, {2, 1, 0, -1}, {1, 0, 2, -1}}) {
                all += (long) way[3] * points.get(e[0])[way[0]] * points.get(e[1])[way[1]] * points.get(e[2])[way[2]];
            }
            return Long.signum(all);
        }

        String told() {
            StringBuilder told = new StringBuilder().append(n);
            for (List<Integer> t : triples()) {
                told.append("dou".charAt(signs.get(Set.of(t.get(0), t.get(1), t.get(2))) + 1));
            }
            return told.toString();
        }

        int flip(int element) {
            State was = new State(this);
            for (Set<Integer> t : was.signs.keySet()) {
                if (t.contains(element)) {
                    signs.put(t, -was.signs.get(t));
                }
            }
            for (int i = 0; i < 3; i++) {
                points.get(element)[i] *= -1;
            }
            return unlike(was);
        }

        int swap(int e, int f) {
            State was = new State(this);
            for (List<Integer> t : triples()) {
                int[] old = t.stream().mapToInt(x -> x == e ? f : x == f ? e : x).toArray();
                put(was.sign(old), t.get(0), t.get(1), t.get(2));
            }
            Collections.swap(points, e, f);
            return unlike(was);
        }

        int draw() {
            State was = new State(this);
            for (List<Integer> t : triples()) {
                signs.put(Set.copyOf(t), turn(t.get(0), t.get(1), t.get(2)));
            }
            return unlike(was);
        }

        int unlike(State was) {
            return (int) triples().stream().filter(t -> !signs.get(Set.copyOf(t)).equals(was.signs.get(Set.copyOf(t)))).count();
        }

        void drop(int element) {
            List<Integer> stay = range(n);
            stay.remove(Integer.valueOf(element));
            State was = new State(this);
            n--;
            signs.clear();
            for (List<Integer> t : triples()) {
                put(was.sign(stay.get(t.get(0)), stay.get(t.get(1)), stay.get(t.get(2))), t.get(0), t.get(1), t.get(2));
            }
            points.remove(element);
        }

        static List<Integer> range(int n) {
            List<Integer> all = new ArrayList<>();
            for (int i = 0; i < n; i++) {
                all.add(i);
            }
            return all;
        }

        static List<List<Integer>> choices(List<Integer> from, int k) {
            List<List<Integer>> all = new ArrayList<>();
            if (k == 0) {
                all.add(List.of());
                return all;
            }
            for (int i = 0; i < from.size(); i++) {
                for (List<Integer> rest : choices(from.subList(i + 1, from.size()), k - 1)) {
                    List<Integer> one = new ArrayList<>(List.of(from.get(i)));
                    one.addAll(rest);
                    all.add(one);
                }
            }
            return all;
        }
    }

    private record Place(List<Integer> vector) { }

    private static final class OracleBox {
        int sort;
        Place[] places;
    }

    private static final class Oracle {
        static final int UNKNOWN = -1001, OUTSIDE = -1002, NOT = -1003, FULL = -1004, NULL = -1011, SIZE = -1012,
            INDEX = -1013, STORE = -1014, EMPTY = -1015, OTHER = -1016;
        /** What was found of signs already, over all runs. */
        static final Map<String, Object> FOUND = new HashMap<>();

        State state = new State();
        final List<State> past = new ArrayList<>();
        final State[] kept = new State[2];
        final StringBuilder text = new StringBuilder();
        final OracleBox[] boxes = new OracleBox[3];

        // ---- told

        int write(int letter) {
            if (letter < 0 || letter > 255) {
                return OUTSIDE;
            }
            if (text.length() == 200) {
                return FULL;
            }
            text.append((char) letter);
            return text.length();
        }

        int erase() {
            int had = text.length();
            text.setLength(0);
            return had;
        }

        int fault() {
            return new Telling(text.toString(), new State(state)).fault();
        }

        int tell() {
            State told = new State(state);
            Telling telling = new Telling(text.toString(), told);
            if (telling.fault() != -1) {
                return NOT;
            }
            state = told;
            past.clear();
            Arrays.fill(kept, null);
            text.setLength(0);
            return telling.clauses;
        }

        int sign(int a, int b, int c) {
            return state.has(a, b, c) ? state.sign(a, b, c) : UNKNOWN;
        }

        int turn(int a, int b, int c) {
            return state.has(a, b, c) ? state.turn(a, b, c) : UNKNOWN;
        }

        int point(int e, int i) {
            return !state.has(e) ? UNKNOWN : i < 0 || i > 2 ? OUTSIDE : state.points.get(e)[i];
        }

        // ---- done

        private void deed() {
            past.add(new State(state));
            if (past.size() > 8) {
                past.remove(0);
            }
        }

        int set(int a, int b, int c, int v) {
            if (!state.has(a, b, c) || new TreeSet<>(List.of(a, b, c)).size() < 3) {
                return UNKNOWN;
            }
            if (v < -1 || v > 1) {
                return OUTSIDE;
            }
            deed();
            int was = state.sign(a, b, c);
            state.put(v, a, b, c);
            return was;
        }

        static boolean far(int... numbers) {
            return Arrays.stream(numbers).anyMatch(x -> x < -99 || x > 99);
        }

        int place(int e, int x, int y, int z) {
            if (!state.has(e)) {
                return UNKNOWN;
            }
            if (far(x, y, z)) {
                return OUTSIDE;
            }
            deed();
            int[] p = {x, y, z};
            int other = Arrays.equals(p, state.points.get(e)) ? 0 : 1;
            state.points.set(e, p);
            return other;
        }

        int flip(int e) {
            if (!state.has(e)) {
                return UNKNOWN;
            }
            deed();
            return state.flip(e);
        }

        int swap(int e, int f) {
            if (!state.has(e, f) || e == f) {
                return UNKNOWN;
            }
            deed();
            return state.swap(e, f);
        }

        int add(int x, int y, int z) {
            if (far(x, y, z)) {
                return OUTSIDE;
            }
            if (state.n == 6) {
                return FULL;
            }
            deed();
            state.points.add(new int[] {x, y, z});
            state.n++;
            for (List<Integer> t : state.triples()) {
                if (t.contains(state.n - 1)) {
                    state.put(state.turn(t.get(0), t.get(1), t.get(2)), t.get(0), t.get(1), t.get(2));
                }
            }
            return state.n;
        }

        int drop(int e) {
            if (!state.has(e)) {
                return UNKNOWN;
            }
            if (state.n == 3) {
                return NOT;
            }
            deed();
            state.drop(e);
            return state.n;
        }

        int draw() {
            deed();
            return state.draw();
        }

        int undo() {
            if (past.isEmpty()) {
                return NOT;
            }
            state = past.remove(past.size() - 1);
            return past.size();
        }

        int keep(int k) {
            if (k != 0 && k != 1) {
                return OUTSIDE;
            }
            kept[k] = new State(state);
            return state.n;
        }

        int back(int k) {
            if (k != 0 && k != 1) {
                return OUTSIDE;
            }
            if (kept[k] == null) {
                return NOT;
            }
            state = new State(kept[k]);
            past.clear();
            return state.n;
        }

        // ---- found

        int five(int a, int b, int c, int d, int e) {
            if (!state.has(a, b, c, d, e) || new TreeSet<>(List.of(a, b, c, d, e)).size() < 5) {
                return UNKNOWN;
            }
            return good(state, a, b, c, d, e) ? 1 : 0;
        }

        static boolean good(State s, int a, int b, int c, int d, int e) {
            List<Integer> numbers = List.of(s.sign(a, b, c) * s.sign(a, d, e), -s.sign(a, b, d) * s.sign(a, c, e), s.sign(a, b, e) * s.sign(a, c, d));
            boolean above = numbers.contains(1);
            boolean below = numbers.contains(-1);
            return above == below;
        }

        static int badFives(State s) {
            int bad = 0;
            for (int a = 0; a < s.n; a++) {
                List<Integer> others = State.range(s.n);
                others.remove(Integer.valueOf(a));
                for (List<Integer> four : State.choices(others, 4)) {
                    bad += good(s, a, four.get(0), four.get(1), four.get(2), four.get(3)) ? 0 : 1;
                }
            }
            return bad;
        }

        static Set<Set<Integer>> bases(State s) {
            Set<Set<Integer>> all = new LinkedHashSet<>();
            for (List<Integer> t : s.triples()) {
                if (s.signs.get(Set.copyOf(t)) != 0) {
                    all.add(new TreeSet<>(t));
                }
            }
            return all;
        }

        static boolean exchange(State s) {
            Set<Set<Integer>> bases = bases(s);
            for (Set<Integer> a : bases) {
                for (Set<Integer> b : bases) {
                    for (int x : a) {
                        if (b.contains(x)) {
                            continue;
                        }
                        boolean found = false;
                        for (int y : b) {
                            Set<Integer> c = new TreeSet<>(a);
                            c.remove(x);
                            found |= !a.contains(y) && c.add(y) && bases.contains(c);
                        }
                        if (!found) {
                            return false;
                        }
                    }
                }
            }
            return !bases.isEmpty();
        }

        static boolean orderly(State s) {
            return (Boolean) FOUND.computeIfAbsent("o" + s.told(), x -> badFives(s) == 0 && exchange(s));
        }

        int is(int what) {
            return switch (what) {
                case 0 -> exchange(state) ? 1 : 0;
                case 1 -> orderly(state) ? 1 : 0;
                case 2 -> new State(state).draw() == 0 ? 1 : 0;
                case 3 -> state.signs.containsValue(0) ? 0 : 1;
                default -> OUTSIDE;
            };
        }

        @SuppressWarnings("unchecked")
        List<List<Integer>> kind(int kind) {
            String name = kind + state.told();
            if (!FOUND.containsKey(name)) {
                FOUND.put(name, findKind(kind));
            }
            return (List<List<Integer>>) FOUND.get(name);
        }

        private List<List<Integer>> findKind(int kind) {
            Set<List<Integer>> all = new LinkedHashSet<>();
            int n = state.n;
            if (kind == 0) {
                for (List<Integer> pair : State.choices(State.range(n), 2)) {
                    withOpposite(all, State.range(n).stream().map(e -> state.sign(pair.get(0), pair.get(1), e)).toList());
                }
            } else if (kind == 1) {
                for (List<Integer> four : State.choices(State.range(n), 4)) {
                    List<Integer> v = new ArrayList<>(Collections.nCopies(n, 0));
                    for (int i = 0; i < 4; i++) {
                        List<Integer> rest = new ArrayList<>(four);
                        rest.remove(i);
                        v.set(four.get(i), (i % 2 == 0 ? 1 : -1) * state.sign(rest.get(0), rest.get(1), rest.get(2)));
                    }
                    withOpposite(all, v);
                }
            } else if (kind == 2) {
                all.add(Collections.nCopies(n, 0));
                all.addAll(kind(0));
                for (int before = 0; before < all.size();) {
                    before = all.size();
                    for (List<Integer> x : new ArrayList<>(all)) {
                        for (List<Integer> y : new ArrayList<>(all)) {
                            all.add(composed(x, y));
                        }
                    }
                }
            } else {
                int fewest = kind(2).stream().mapToInt(Oracle::zeros).min().getAsInt();
                kind(2).stream().filter(v -> zeros(v) == fewest).forEach(all::add);
            }
            List<List<Integer>> listed = new ArrayList<>(all);
            listed.sort(Oracle::compareVectors);
            return listed;
        }

        private static int compareVectors(List<Integer> v, List<Integer> w) {
            for (int e = 0; e < v.size(); e++) {
                if (!v.get(e).equals(w.get(e))) {
                    return w.get(e) - v.get(e);
                }
            }
            return 0;
        }

        private static void withOpposite(Set<List<Integer>> all, List<Integer> v) {
            if (zeros(v) < v.size()) {
                all.add(v);
                all.add(v.stream().map(x -> -x).toList());
            }
        }

        static List<Integer> composed(List<Integer> x, List<Integer> y) {
            List<Integer> all = new ArrayList<>();
            for (int e = 0; e < x.size(); e++) {
                all.add(x.get(e) != 0 ? x.get(e) : y.get(e));
            }
            return all;
        }

        static int zeros(List<Integer> v) {
            return Collections.frequency(v, 0);
        }

        /** How many there are to tell of, 0 if none can be told of. */
        int size(int kind) {
            return kind < 0 || kind > 3 || kind > 1 && !orderly(state) ? 0 : kind(kind).size();
        }

        int vector(int kind, int k, int e) {
            if (kind < 0 || kind > 3 || k < -1) {
                return OUTSIDE;
            }
            if (kind > 1 && !orderly(state)) {
                return NOT;
            }
            if (k == -1) {
                return kind(kind).size();
            }
            return k >= kind(kind).size() || !state.has(e) ? UNKNOWN : kind(kind).get(k).get(e);
        }

        /** The elements at which two topes are unlike. */
        Set<Integer> separated(int t, int u) {
            Set<Integer> all = new TreeSet<>();
            for (int e = 0; e < state.n; e++) {
                if (!kind(3).get(t).get(e).equals(kind(3).get(u).get(e))) {
                    all.add(e);
                }
            }
            return all;
        }

        boolean next(int t, int u) {
            return neighbours().get(u).contains(t);
        }

        /** To each tope all that are next to it. */
        @SuppressWarnings("unchecked")
        private List<Set<Integer>> neighbours() {
            String name = "n" + state.told();
            if (!FOUND.containsKey(name)) {
                List<Set<Integer>> all = new ArrayList<>();
                for (int u = 0; u < kind(3).size(); u++) {
                    all.add(neighboursOf(u));
                }
                FOUND.put(name, all);
            }
            return (List<Set<Integer>>) FOUND.get(name);
        }

        private Set<Integer> neighboursOf(int u) {
            List<Set<Integer>> apart = new ArrayList<>();
            for (int t = 0; t < kind(3).size(); t++) {
                apart.add(separated(t, u));
            }
            Set<Integer> all = new TreeSet<>();
            for (int t = 0; t < apart.size(); t++) {
                boolean free = t != u;
                for (int third = 0; third < apart.size() && free; third++) {
                    free = third == t || third == u || !apart.get(t).containsAll(apart.get(third));
                }
                if (free) {
                    all.add(t);
                }
            }
            return all;
        }

        int beside(int t) {
            if (!orderly(state)) {
                return NOT;
            }
            if (t < 0 || t >= kind(3).size()) {
                return UNKNOWN;
            }
            return (int) State.range(kind(3).size()).stream().filter(u -> next(u, t)).count();
        }

        int between(int t, int u, int what) {
            if (what < 0 || what > 2) {
                return OUTSIDE;
            }
            if (!orderly(state)) {
                return NOT;
            }
            if (t < 0 || u < 0 || t >= kind(3).size() || u >= kind(3).size()) {
                return UNKNOWN;
            }
            return what == 0 ? separated(t, u).size() : what == 1 ? next(t, u) ? 1 : 0 : steps(t, u);
        }

        private int steps(int t, int u) {
            String name = "s" + t + "," + u + "," + state.told();
            if (!FOUND.containsKey(name)) {
                FOUND.put(name, walk(t, u));
            }
            return (Integer) FOUND.get(name);
        }

        private int walk(int t, int u) {
            Map<Integer, Integer> far = new HashMap<>(Map.of(t, 0));
            ArrayDeque<Integer> open = new ArrayDeque<>(List.of(t));
            while (!open.isEmpty() && !far.containsKey(u)) {
                int at = open.poll();
                for (int to = 0; to < kind(3).size(); to++) {
                    if (next(to, at) && !far.containsKey(to)) {
                        far.put(to, far.get(at) + 1);
                        open.add(to);
                    }
                }
            }
            return far.get(u);
        }

        int mutation(int t) {
            if (!orderly(state)) {
                return NOT;
            }
            if (t < -1 || t >= state.triples().size()) {
                return UNKNOWN;
            }
            if (t >= 0) {
                return mutates(t) ? 1 : 0;
            }
            return (int) State.range(state.triples().size()).stream().filter(this::mutates).count();
        }

        private boolean mutates(int t) {
            State other = new State(state);
            Set<Integer> triple = Set.copyOf(state.triples().get(t));
            other.signs.put(triple, -state.signs.get(triple));
            return state.signs.get(triple) != 0 && orderly(other);
        }

        int extensions() {
            if (!orderly(state) || state.n > 4) {
                return NOT;
            }
            return (Integer) FOUND.computeIfAbsent("e" + state.told(), x -> findExtensions());
        }

        private int findExtensions() {
            State more = new State(state);
            more.n++;
            List<List<Integer>> fresh = new ArrayList<>(more.triples());
            fresh.removeIf(t -> !t.contains(state.n));
            int ways = 0;
            for (int code = 0; code < Math.pow(3, fresh.size()); code++) {
                int rest = code;
                for (List<Integer> t : fresh) {
                    more.signs.put(Set.copyOf(t), rest % 3 - 1);
                    rest /= 3;
                }
                ways += badFives(more) == 0 && exchange(more) ? 1 : 0;
            }
            return ways;
        }

        // ---- boxes

        int box(int box, int sort, int n) {
            if (box < 0 || box > 2) {
                return UNKNOWN;
            }
            if (sort < 0 || sort > 1 || n > 6) {
                return OUTSIDE;
            }
            if (n < 0) {
                return SIZE;
            }
            boxes[box] = new OracleBox();
            boxes[box].sort = sort;
            boxes[box].places = new Place[n];
            return n;
        }

        int lay(int box, int i, int kind, int k) {
            if (kind < 0 || kind > 3) {
                return OUTSIDE;
            }
            if (kind > 1 && !orderly(state)) {
                return NOT;
            }
            if (k < 0 || k >= kind(kind).size() || box < 0 || box > 2) {
                return UNKNOWN;
            }
            if (boxes[box] == null) {
                return NULL;
            }
            if (i < 0 || i >= boxes[box].places.length) {
                return INDEX;
            }
            List<Integer> v = kind(kind).get(k);
            if (boxes[box].sort == 1 && v.contains(0)) {
                return STORE;
            }
            boxes[box].places[i] = new Place(v);
            return zeros(v);
        }

        private int lookAt(int box, int... places) {
            if (box < 0 || box > 2) {
                return UNKNOWN;
            }
            if (boxes[box] == null) {
                return NULL;
            }
            for (int i : places) {
                if (i < 0 || i >= boxes[box].places.length) {
                    return INDEX;
                }
            }
            for (int i : places) {
                if (boxes[box].places[i] == null) {
                    return EMPTY;
                }
            }
            return 0;
        }

        int compose(int box, int i, int j) {
            int refused = lookAt(box, i, j);
            if (refused != 0) {
                return refused;
            }
            List<Integer> x = boxes[box].places[i].vector();
            List<Integer> y = boxes[box].places[j].vector();
            if (x.size() != y.size()) {
                return OTHER;
            }
            boxes[box].places[i] = new Place(composed(x, y));
            return zeros(composed(x, y));
        }

        int seen(int box, int i, int e) {
            int refused = lookAt(box, i);
            if (refused != 0) {
                return refused;
            }
            List<Integer> v = boxes[box].places[i].vector();
            return e < 0 || e >= v.size() ? OUTSIDE : v.get(e);
        }

        int find(int box, int i, int kind) {
            if (box < 0 || box > 2) {
                return UNKNOWN;
            }
            if (kind < 0 || kind > 3) {
                return OUTSIDE;
            }
            if (kind > 1 && !orderly(state)) {
                return NOT;
            }
            int refused = lookAt(box, i);
            return refused != 0 ? refused : kind(kind).indexOf(boxes[box].places[i].vector());
        }

        int away(int box) {
            if (box < 0 || box > 2) {
                return UNKNOWN;
            }
            if (boxes[box] == null) {
                return NULL;
            }
            int had = held(boxes[box]);
            boxes[box] = null;
            return had;
        }

        private static int held(OracleBox box) {
            return box == null ? 0 : (int) Arrays.stream(box.places).filter(p -> p != null).count();
        }

        int count(int what) {
            Set<Set<Integer>> bases = bases(state);
            return switch (what) {
                case 0 -> state.n;
                case 1 -> state.triples().size();
                case 2 -> bases.size();
                case 3 -> badFives(state);
                case 4 -> State.range(state.n).stream().filter(e -> loop(bases, e)).mapToInt(e -> 1 << e).sum();
                case 5 -> (int) State.choices(State.range(state.n), 2).stream()
                    .filter(p -> !loop(bases, p.get(0)) && !loop(bases, p.get(1)) && bases.stream().noneMatch(b -> b.containsAll(p))).count();
                case 6 -> past.size();
                case 7 -> text.length();
                case 8 -> Arrays.stream(boxes).mapToInt(Oracle::held).sum();
                default -> OUTSIDE;
            };
        }

        private static boolean loop(Set<Set<Integer>> bases, int e) {
            return bases.stream().noneMatch(b -> b.contains(e));
        }
    }

    /** Reads a text by a list of what may stand at each place of a clause. */
    private static final class Telling {
        private static final Pattern TOKEN = Pattern.compile("[a-z]+|[0-9]+|[^ ]", Pattern.DOTALL);
        private static final Map<String, String> FORMS = Map.of("signs", "NW", "point", "EXXX", "flip", "E", "swap", "EF", "draw", "");
        private final List<String> tokens = new ArrayList<>();
        private final List<Integer> starts = new ArrayList<>();
        private final State onto;
        private int at = 0;
        int clauses = 0;

        Telling(String text, State onto) {
            this.onto = onto;
            Matcher m = TOKEN.matcher(text);
            while (m.find()) {
                tokens.add(m.group());
                starts.add(m.start());
            }
            starts.add(text.length());
        }

        int fault() {
            while (true) {
                if (!clause()) {
                    return starts.get(at);
                }
                clauses++;
                if (at == tokens.size()) {
                    return -1;
                }
                if (clauses == 24 || !tokens.get(at).equals(";")) {
                    return starts.get(at);
                }
                at++;
            }
        }

        private String token() {
            return at < tokens.size() ? tokens.get(at) : "";
        }

        private boolean clause() {
            String head = token();
            if (!FORMS.containsKey(head)) {
                return false;
            }
            at++;
            List<Integer> read = new ArrayList<>();
            String word = "";
            for (char form : FORMS.get(head).toCharArray()) {
                int sign = 1;
                if (form == 'X' && token().equals("-")) {
                    sign = -1;
                    at++;
                }
                if (form == 'W') {
                    int n = read.get(0);
                    word = token();
                    if (!word.matches("[uod]{" + n * (n - 1) * (n - 2) / 6 + "}")) {
                        return false;
                    }
                } else {
                    if (!token().matches("[0-9]{1,2}")) {
                        return false;
                    }
                    int number = Integer.parseInt(token());
                    boolean fits = switch (form) {
                        case 'N' -> number >= 3 && number <= 6;
                        case 'X' -> true;
                        case 'E' -> number < onto.n;
                        default -> number < onto.n && number != read.get(0);
                    };
                    if (!fits) {
                        return false;
                    }
                    read.add(sign * number);
                }
                at++;
            }
            act(head, read, word);
            return true;
        }

        private void act(String head, List<Integer> read, String word) {
            switch (head) {
                case "signs" -> {
                    onto.n = read.get(0);
                    onto.points.clear();
                    for (int e = 0; e < onto.n; e++) {
                        onto.points.add(new int[] {1, e, e * e});
                    }
                    onto.signs.clear();
                    List<List<Integer>> triples = onto.triples();
                    for (int t = 0; t < triples.size(); t++) {
                        onto.signs.put(Set.copyOf(triples.get(t)), "dou".indexOf(word.charAt(t)) - 1);
                    }
                }
                case "point" -> onto.points.set(read.get(0), new int[] {read.get(1), read.get(2), read.get(3)});
                case "flip" -> onto.flip(read.get(0));
                case "swap" -> onto.swap(read.get(0), read.get(1));
                default -> onto.draw();
            }
        }
    }
}
