/** Objects made for tests, and what can be asked of one, in short texts. */
final class Made {
    private Made() {
    }

    static void write(SignTriples x, String text) {
        for (int i = 0; i < text.length(); i++) {
            x.write(text.charAt(i));
        }
    }

    static SignTriples written(String text) {
        SignTriples x = new SignTriples();
        write(x, text);
        return x;
    }

    static SignTriples told(String text) {
        SignTriples x = written(text);
        Dues.due("fault of '" + text + "'", x.fault(), SignTriples.NONE);
        x.tell();
        return x;
    }

    /** So many elements, all signs 1. */
    static SignTriples allUp(int elements) {
        return told("signs " + elements + " " + "u".repeat(triples(elements)));
    }

    /** So many elements, all signs 0. */
    static SignTriples allNothing(int elements) {
        return told("signs " + elements + " " + "o".repeat(triples(elements)));
    }

    static int triples(int elements) {
        return elements * (elements - 1) * (elements - 2) / 6;
    }

    static String signs(SignTriples x) {
        StringBuilder all = new StringBuilder();
        int n = x.count(0);
        for (int a = 0; a < n; a++) {
            for (int b = a + 1; b < n; b++) {
                for (int c = b + 1; c < n; c++) {
                    all.append("dou".charAt(x.sign(a, b, c) + 1));
                }
            }
        }
        return all.toString();
    }

    static String pointOf(SignTriples x, int element) {
        return x.point(element, 0) + " " + x.point(element, 1) + " " + x.point(element, 2);
    }

    static String points(SignTriples x) {
        StringBuilder all = new StringBuilder();
        int n = x.count(0);
        for (int e = 0; e < n; e++) {
            all.append(pointOf(x, e)).append(';');
        }
        return all.toString();
    }

    static String vector(SignTriples x, int kind, int k) {
        StringBuilder all = new StringBuilder();
        int n = x.count(0);
        for (int e = 0; e < n; e++) {
            all.append("-0+".charAt(x.vector(kind, k, e) + 1));
        }
        return all.toString();
    }

    static String vectors(SignTriples x, int kind) {
        StringBuilder all = new StringBuilder();
        int vectors = x.vector(kind, -1, 0);
        for (int k = 0; k < vectors; k++) {
            all.append(vector(x, kind, k)).append(' ');
        }
        return all.toString().trim();
    }

    /** A box: ? if it is missing, else its places, an empty one as a dot. */
    static String box(SignTriples x, int box) {
        StringBuilder all = new StringBuilder();
        for (int i = 0; i <= 6; i++) {
            int first = x.seen(box, i, 0);
            if (first == SignTriples.NULL) {
                return "?";
            }
            if (first == SignTriples.INDEX) {
                break;
            }
            all.append(first == SignTriples.EMPTY ? "." : seen(x, box, i)).append(' ');
        }
        return all.toString().trim();
    }

    static String seen(SignTriples x, int box, int i) {
        StringBuilder all = new StringBuilder();
        for (int number = x.seen(box, i, 0); number >= -1; number = x.seen(box, i, all.length())) {
            all.append("-0+".charAt(number + 1));
        }
        return all.toString();
    }

    static String arrangement(SignTriples x) {
        return signs(x) + " " + points(x);
    }

    /** All that can be asked without a change. */
    static String state(SignTriples x) {
        StringBuilder all = new StringBuilder(arrangement(x));
        for (int what = 0; what <= 8; what++) {
            all.append(' ').append(x.count(what));
        }
        for (int box = 0; box < 3; box++) {
            all.append(" [").append(box(x, box)).append(']');
        }
        return all.append(' ').append(x.fault()).toString();
    }

    /** All that can be asked, what can be gone back to also; the object is not as it was behind that. */
    static String stateAndPast(SignTriples x) {
        StringBuilder all = new StringBuilder(state(x));
        while (x.undo() >= 0) {
            all.append("\nundone ").append(arrangement(x));
        }
        for (int k = 0; k < 2; k++) {
            all.append("\nback ").append(x.back(k)).append(' ').append(arrangement(x));
        }
        int told = x.tell();
        all.append("\ntold ").append(told).append(' ').append(arrangement(x));
        for (int box = 0; box < 3; box++) {
            all.append("\nlaid ").append(x.lay(box, 0, 0, 0)).append(" away ").append(x.away(box));
        }
        return all.toString();
    }
}
