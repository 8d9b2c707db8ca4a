/** Things counted over all signs that there can be, against numbers that are known otherwise. */
public final class CountsTest {
    private static final int CALLS = 400;
    private static int wrong = 0;

    public static void main(String[] args) {
        exchangeOfAllFamilies();
        orderlyOfFour();
        extensionsAsListed();
        System.out.println(wrong == 0 ? "counts: all are as due" : "counts: " + wrong + " are not as due");
        if (wrong != 0) {
            System.exit(1);
        }
    }

    private static void due(String what, int got, int want) {
        if (got != want) {
            wrong++;
            System.out.println(what + ": " + got + ", due is " + want);
        }
    }

    private static SignTriples told(String text) {
        SignTriples x = new SignTriples();
        for (int i = 0; i < text.length(); i++) {
            x.write(text.charAt(i));
        }
        due("clauses of " + text, x.tell(), 1);
        return x;
    }

    private static String word(int code, int signs, int base, String letters) {
        StringBuilder word = new StringBuilder();
        for (int t = 0, rest = code; t < signs; t++, rest /= base) {
            word.append(letters.charAt(rest % base));
        }
        return word.toString();
    }

    /**
     * Of four elements any bases, if there is one, have exchange: 15. Of five the sets left over by bases have it too, and two
     * elements are together in none of these, if they are of one part: parts of 2, 3, 4, 5 elements that are no loops of these,
     * two parts or more: 10 (2 - 1) + 10 (5 - 1) + 5 (15 - 1) + (52 - 1) = 171.
     */
    private static void exchangeOfAllFamilies() {
        int four = 0;
        for (int code = 0; code < 1 << 4; code++) {
            four += told("signs 4 " + word(code, 4, 2, "ou")).is(0);
        }
        due("families of four with exchange", four, 15);
        int five = 0;
        for (int code = 0; code < 1 << 10; code++) {
            five += told("signs 5 " + word(code, 10, 2, "ou")).is(0);
        }
        due("families of five with exchange", five, 171);
    }

    private static void orderlyOfFour() {
        int orderly = 0;
        for (int code = 0; code < 81; code++) {
            orderly += told("signs 4 " + word(code, 4, 3, "uod")).is(1);
        }
        due("orderly signs of four: all but zeros", orderly, 80);
    }

    /** All orderly signs of five whose first four have a base are the extensions of these four's signs. */
    private static void extensionsAsListed() {
        int foretold = 0;
        for (int code = 0; code < 81; code++) {
            int ways = told("signs 4 " + word(code, 4, 3, "uod")).extensions();
            foretold += Math.max(ways, 0);
        }
        int listed = 0;
        SignTriples x = told("signs 5 oooooooooo");
        int calls = 0;
        int[] digits = new int[10];
        int[][] triples = {{0, 1, 2}, {0, 1, 3}, {0, 2, 3}, {1, 2, 3}, {0, 1, 4}, {0, 2, 4}, {0, 3, 4}, {1, 2, 4}, {1, 3, 4}, {2, 3, 4}};
        for (int code = 1; code < 59049; code++) {
            int t = 0;
            while (digits[t] == 2) {
                digits[t] = 0;
                t++;
            }
            digits[t]++;
            if (calls > CALLS) {
                x = told("signs 5 oooooooooo");
                calls = 0;
                for (int u = 0; u < 10; u++) {
                    give(x, triples[u], digits[u]);
                }
            }
            for (int u = 0; u <= t; u++) {
                give(x, triples[u], digits[u]);
                calls++;
            }
            boolean base = digits[0] + digits[1] + digits[2] + digits[3] > 0;
            listed += base ? x.is(1) : 0;
            calls++;
        }
        due("extensions of all signs of four", foretold, listed);
    }

    private static void give(SignTriples x, int[] triple, int digit) {
        x.set(triple[0], triple[1], triple[2], digit == 2 ? -1 : digit);
    }
}
