import java.util.ArrayList;
import java.util.List;

/**
 * What each deed makes of each sign, of 3 to 6 elements, whichever elements it names: words and points are made here
 * from the document's words and compared with those that are there behind the deed, and behind its undoing.
 */
public final class DeedsOnEachSignTest {
    public static void main(String[] args) {
        Dues.runAll(Tests.class);
    }

    /** Words in which one sign alone is another one, and some with all three. */
    private static List<String> words(int n) {
        int triples = Made.triples(n);
        List<String> all = new ArrayList<>();
        for (int t = 0; t < triples; t++) {
            all.add("o".repeat(t) + "u" + "o".repeat(triples - t - 1));
            all.add("u".repeat(t) + "d" + "u".repeat(triples - t - 1));
            all.add(("uoduuddoouuodduouddoudo" + "uod".repeat(10)).substring(t, t + triples));
        }
        return all;
    }

    /** The sign of three elements in any order, as a word of n elements tells it. */
    private static int sign(String word, int n, int a, int b, int c) {
        if (a > b) {
            return -sign(word, n, b, a, c);
        }
        if (b > c) {
            return -sign(word, n, a, c, b);
        }
        int ahead = Made.triples(n) - Made.triples(n - a) + pairs(n - a - 1) - pairs(n - b) + c - b - 1;
        return "dou".indexOf(word.charAt(ahead)) - 1;
    }

    private static int pairs(int n) {
        return n * (n - 1) / 2;
    }

    private interface Sign {
        int of(int a, int b, int c);
    }

    private static String word(int n, Sign sign) {
        StringBuilder word = new StringBuilder();
        for (int a = 0; a < n; a++) {
            for (int b = a + 1; b < n; b++) {
                for (int c = b + 1; c < n; c++) {
                    word.append("dou".charAt(sign.of(a, b, c) + 1));
                }
            }
        }
        return word.toString();
    }

    /** The points that elements have at first, of those elements. */
    private static String points(int... elements) {
        StringBuilder points = new StringBuilder();
        for (int e : elements) {
            points.append("1 ").append(e).append(' ').append(e * e).append(';');
        }
        return points.toString();
    }

    private static int[] elements(int n) {
        int[] all = new int[n];
        for (int e = 0; e < n; e++) {
            all[e] = e;
        }
        return all;
    }

    private static int unlike(String one, String other) {
        int all = 0;
        for (int i = 0; i < one.length(); i++) {
            all += one.charAt(i) == other.charAt(i) ? 0 : 1;
        }
        return all;
    }

    private static SignTriples begun(int n, String word) {
        return Made.told("signs " + n + " " + word);
    }

    private static void behind(String deed, SignTriples x, String word, String points, String wordAhead) {
        Dues.due("signs behind " + deed + " of " + wordAhead, Made.signs(x), word);
        Dues.due("points behind " + deed + " of " + wordAhead, Made.points(x), points);
        Dues.due("undo of " + deed, x.undo(), 0);
        Dues.due("signs behind undo of " + deed, Made.signs(x), wordAhead);
    }

    static final class Tests {
        static void signsAreThoseOfTheWord() {
            Dues.sentence("SIGNS by W, a word of as many letters as there are TRIPLES, by their numbers");
            for (int n = 3; n <= 6; n++) {
                for (String word : words(n)) {
                    int elements = n;
                    Dues.due("signs", Made.signs(begun(n, word)), word(n, (a, b, c) -> sign(word, elements, a, b, c)));
                }
            }
        }

        static void setOfEach() {
            Dues.sentence("SIGN of three ELEMENTS in this order becomes v (-1 .. 1): what it was.");
            for (int n = 3; n <= 6; n++) {
                int triples = Made.triples(n);
                for (int t = 0; t < triples; t++) {
                    String ahead = words(n).get(3 * t + 2);
                    String named = "u".repeat(t) + "d" + "u".repeat(triples - t - 1);
                    for (int v = -1; v <= 1; v++) {
                        setOne(n, ahead, named, t, v);
                    }
                }
            }
        }

        /** The triple is the one whose sign alone is a minus in the word named. */
        private static void setOne(int n, String ahead, String named, int t, int v) {
            for (int a = 0; a < n; a++) {
                for (int b = a + 1; b < n; b++) {
                    for (int c = b + 1; c < n; c++) {
                        if (sign(named, n, a, b, c) < 0) {
                            SignTriples x = begun(n, ahead);
                            Dues.due("set", x.set(c, b, a, v), sign(ahead, n, c, b, a));
                            String word = ahead.substring(0, t) + "dou".charAt(1 - v) + ahead.substring(t + 1);
                            behind("set", x, word, points(elements(n)), ahead);
                        }
                    }
                }
            }
        }

        static void flipOfEach() {
            Dues.sentence("SIGNS of all TRIPLES with an ELEMENT, its POINT's numbers, times -1: how many SIGNS became others.");
            for (int n = 3; n <= 6; n++) {
                for (String ahead : words(n)) {
                    for (int e = 0; e < n; e++) {
                        flipOne(n, ahead, e);
                    }
                }
            }
        }

        private static void flipOne(int n, String ahead, int e) {
            String word = word(n, (a, b, c) -> sign(ahead, n, a, b, c) * (a == e || b == e || c == e ? -1 : 1));
            String points = points(elements(n)).replace(points(e), "-1 " + -e + " " + -e * e + ";");
            SignTriples x = begun(n, ahead);
            Dues.due("flip " + e + " of " + ahead, x.flip(e), unlike(ahead, word));
            behind("flip " + e, x, word, points, ahead);
        }

        static void swapOfEach() {
            Dues.sentence("Two ELEMENTS change their numbers (POINTS, too): how many TRIPLES have another SIGN than they had.");
            for (int n = 3; n <= 6; n++) {
                for (String ahead : words(n)) {
                    for (int e = 0; e < n; e++) {
                        for (int f = 0; f < n; f++) {
                            if (e != f) {
                                swapOne(n, ahead, e, f);
                            }
                        }
                    }
                }
            }
        }

        private static void swapOne(int n, String ahead, int e, int f) {
            int[] from = elements(n);
            from[e] = f;
            from[f] = e;
            String word = word(n, (a, b, c) -> sign(ahead, n, from[a], from[b], from[c]));
            SignTriples x = begun(n, ahead);
            Dues.due("swap " + e + " " + f + " of " + ahead, x.swap(e, f), unlike(ahead, word));
            behind("swap " + e + " " + f, x, word, points(from), ahead);
        }

        static void addToEach() {
            Dues.sentence("An ELEMENT more, with a POINT; SIGNS of TRIPLES with it are their TURNS");
            for (int n = 3; n <= 5; n++) {
                int[] all = elements(n + 1);
                for (String ahead : words(n)) {
                    addOne(n, ahead, all);
                }
            }
        }

        /** Points as at first turn the way that they rise, so of the new element's signs all are 1. */
        private static void addOne(int n, String ahead, int[] all) {
            String word = word(n + 1, (a, b, c) -> c == n ? 1 : sign(ahead, n, a, b, c));
            SignTriples x = begun(n, ahead);
            Dues.due("add to " + ahead, x.add(1, n, n * n), n + 1);
            behind("add", x, word, points(all), ahead);
        }

        static void dropOfEach() {
            Dues.sentence("An ELEMENT goes; later ones have a number less; SIGNS, POINTS of the others stay: how many are left.");
            for (int n = 4; n <= 6; n++) {
                for (String ahead : words(n)) {
                    for (int e = 0; e < n; e++) {
                        dropOne(n, ahead, e);
                    }
                }
            }
        }

        private static void dropOne(int n, String ahead, int e) {
            int[] from = elements(n - 1);
            for (int a = e; a < n - 1; a++) {
                from[a] = a + 1;
            }
            String word = word(n - 1, (a, b, c) -> sign(ahead, n, from[a], from[b], from[c]));
            SignTriples x = begun(n, ahead);
            Dues.due("drop " + e + " of " + ahead, x.drop(e), n - 1);
            behind("drop " + e, x, word, points(from), ahead);
        }

        static void drawOfEach() {
            Dues.sentence("SIGNS of all TRIPLES become their TURNS: how many SIGNS became others.");
            for (int n = 3; n <= 6; n++) {
                String drawn = "u".repeat(Made.triples(n));
                for (String ahead : words(n)) {
                    SignTriples x = begun(n, ahead);
                    Dues.due("all drawn in " + ahead, x.is(2), ahead.equals(drawn) ? 1 : 0);
                    Dues.due("draw of " + ahead, x.draw(), unlike(ahead, drawn));
                    Dues.due("all drawn", x.is(2), 1);
                    behind("draw", x, drawn, points(elements(n)), ahead);
                }
            }
        }

        static void deedsOfATextAreAsTheCalls() {
            Dues.sentence("flip, swap, draw: as the calls");
            for (int n = 3; n <= 6; n++) {
                for (String ahead : words(n)) {
                    for (int e = 0; e < n; e++) {
                        int f = (e + 2) % n;
                        SignTriples x = begun(n, ahead);
                        x.swap(e, f);
                        x.flip(e);
                        SignTriples told = begun(n, ahead);
                        Made.write(told, "swap " + e + " " + f + ";flip " + e);
                        Dues.due("told", told.tell(), 2);
                        Dues.due("swap, flip of " + ahead, Made.arrangement(told), Made.arrangement(x));
                        x.draw();
                        Made.write(told, "draw");
                        Dues.due("told", told.tell(), 1);
                        Dues.due("draw", Made.arrangement(told), Made.arrangement(x));
                    }
                }
            }
        }
    }
}
