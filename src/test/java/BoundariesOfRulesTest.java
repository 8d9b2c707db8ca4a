/**
 * Each sentence on EXCHANGE, FIVES, VECTORS, TOPES and what is FORETOLD that names a boundary case,
 * from "Terms" and promises 19 to 25, and of those counts in promise 32 that go by them, by a test of its own.
 */
public final class BoundariesOfRulesTest {
    private static final int UNKNOWN = SignTriples.UNKNOWN;
    private static final int OUTSIDE = SignTriples.OUTSIDE;
    private static final int NOT = SignTriples.NOT;
    private static final int COCIRCUITS = 0;
    private static final int CIRCUITS = 1;
    private static final int COVECTORS = 2;
    private static final int TOPES = 3;
    /** Exchange holds, and of all fives that one alone is not good, whose element a is the word's place here. */
    private static final String[] ONE_BAD_FIVE = {"uuuuouoooo", "uuuooououo", "uoouuouoou", "ouououuoou", "oououuouou"};
    /** All is orderly; with the sign of the triple of that number turned, that one five alone is not good. */
    private static final String[] ONE_BAD_FIVE_IF_TURNED = {"uuuuuuoooo", "uuuooouuuo", "uoouuouuou", "ouououuouu", "oououuouuu"};
    private static final int[] TURNED = {1, 1, 3, 3, 4};
    /** Exchange fails at one element x alone, which is the word's place here, of one ordered pair of bases. */
    private static final String[] ONE_BAD_EXCHANGE = {"uuuooouooo", "uuuuoooooo", "uuouuooooo", "uuououoooo", "uououuoooo"};

    public static void main(String[] args) {
        Dues.runAll(Tests.class);
    }

    private static SignTriples five(String word) {
        return Made.told("signs 5 " + word);
    }

    /** Of six elements the first or the last is in no triple with a sign. */
    private static SignTriples sixWithLoop(String word, boolean last) {
        SignTriples x = Made.told("signs 6 " + "o".repeat(10) + word);
        if (last) {
            for (int e = 0; e < 5; e++) {
                x.swap(e, e + 1);
            }
        }
        return x;
    }

    private static void isOrderly(String text, int exchange, int orderly) {
        SignTriples x = Made.told(text);
        Dues.due("is 0 of " + text, x.is(0), exchange);
        Dues.due("is 1 of " + text, x.is(1), orderly);
    }

    private static SignTriples notOrderly() {
        return five(ONE_BAD_FIVE[0]);
    }

    private static void loopsAndPairs(String text, int loops, int pairs) {
        SignTriples x = Made.told(text);
        Dues.due("loops of " + text, x.count(4), loops);
        Dues.due("pairs of " + text, x.count(5), pairs);
    }

    /** The numbers of a five become first, -second, third. */
    private static SignTriples withNumbers(int elements, int[] five, int first, int second, int third) {
        SignTriples x = Made.allNothing(elements);
        x.set(five[0], five[1], five[2], first);
        x.set(five[0], five[3], five[4], 1);
        x.set(five[0], five[1], five[3], -second);
        x.set(five[0], five[2], five[4], 1);
        x.set(five[0], five[1], five[4], third);
        x.set(five[0], five[2], five[3], 1);
        return x;
    }

    private static void allFivesAsTheirNumbers(int elements, int... five) {
        for (int first = -1; first <= 1; first++) {
            for (int second = -1; second <= 1; second++) {
                for (int third = -1; third <= 1; third++) {
                    boolean above = first > 0 || second > 0 || third > 0;
                    boolean below = first < 0 || second < 0 || third < 0;
                    SignTriples x = withNumbers(elements, five, first, second, third);
                    Dues.due("five of " + first + " " + second + " " + third,
                            x.five(five[0], five[1], five[2], five[3], five[4]), above == below ? 1 : 0);
                }
            }
        }
    }

    private static void kinds(SignTriples x, int cocircuits, int circuits, int covectors, int topes) {
        Dues.due("cocircuits", x.vector(COCIRCUITS, -1, 0), cocircuits);
        Dues.due("circuits", x.vector(CIRCUITS, -1, 0), circuits);
        Dues.due("covectors", x.vector(COVECTORS, -1, 0), covectors);
        Dues.due("topes", x.vector(TOPES, -1, 0), topes);
    }

    private static int unlike(String one, String other) {
        int all = 0;
        for (int i = 0; i < one.length(); i++) {
            all += one.charAt(i) == other.charAt(i) ? 0 : 1;
        }
        return all;
    }

    /** What can be found of all signs there are, in few calls. */
    private static String found(SignTriples x) {
        StringBuilder all = new StringBuilder();
        for (int what = 2; what <= 5; what++) {
            all.append(x.count(what)).append(' ');
        }
        all.append(x.is(0)).append(x.is(1)).append(x.is(3));
        for (int kind = 0; kind <= 3; kind++) {
            all.append(' ').append(x.vector(kind, -1, 0)).append(' ').append(x.vector(kind, 1, 2));
        }
        all.append(" next ").append(x.beside(0)).append(x.beside(7)).append(x.between(0, 7, 1)).append(x.between(0, 7, 2));
        return all.append(" foretold ").append(x.mutation(-1)).append(' ').append(x.extensions()).toString();
    }

    private static String opposite(String vector) {
        return vector.replace('+', 'x').replace('-', '+').replace('x', '-');
    }

    static final class Tests {
        // ---- bases, exchange, loops, pairs

        static void aBaseHasASignThatIsNotNothing() {
            Dues.sentence("BASE: a TRIPLE whose SIGN is not 0");
            Dues.due("of 1", Made.told("signs 3 u").count(2), 1);
            Dues.due("of -1", Made.told("signs 3 d").count(2), 1);
            Dues.due("of 0", Made.told("signs 3 o").count(2), 0);
            Dues.due("of six", Made.told("signs 6 " + "ud".repeat(10)).count(2), 20);
            Dues.due("of six, all but the first", Made.told("signs 6 o" + "u".repeat(19)).count(2), 19);
            Dues.due("of six, all but the last", Made.told("signs 6 " + "u".repeat(19) + "o").count(2), 19);
        }

        static void exchangeHoldsNotWithoutABase() {
            Dues.sentence("EXCHANGE holds, if there is a BASE");
            for (int n = 3; n <= 6; n++) {
                SignTriples x = Made.allNothing(n);
                Dues.due("exchange", x.is(0), 0);
                Dues.due("orderly", x.is(1), 0);
            }
        }

        static void exchangeHoldsWithOneBaseAlone() {
            Dues.sentence("EXCHANGE holds, if there is a BASE");
            for (int n = 3; n <= 6; n++) {
                int triples = Made.triples(n);
                for (int t = 0; t < triples; t++) {
                    isOrderly("signs " + n + " " + "o".repeat(t) + "d" + "o".repeat(triples - t - 1), 1, 1);
                }
            }
        }

        static void exchangeHoldsWithAllBases() {
            Dues.sentence("EXCHANGE holds, if there is a BASE, and for any two BASES A, B");
            for (int n = 3; n <= 6; n++) {
                Dues.due("exchange", Made.allUp(n).is(0), 1);
                Dues.due("exchange", Made.told("signs " + n + " " + "d".repeat(Made.triples(n))).is(0), 1);
            }
        }

        static void exchangeIsForEachElementOfA() {
            Dues.sentence("for any two BASES A, B and each ELEMENT x of A that is not of B there is one y of B, not of A");
            for (String word : ONE_BAD_EXCHANGE) {
                Dues.due("exchange of " + word, five(word).is(0), 0);
                Dues.due("a sixth, the first", sixWithLoop(word, false).is(0), 0);
                Dues.due("a sixth, the last", sixWithLoop(word, true).is(0), 0);
            }
            Dues.due("two far from each other", Made.told("signs 6 uooooooooooooooooood").is(0), 0);
        }

        static void exchangeIsForTheFirstAndTheLastBases() {
            Dues.sentence("for any two BASES A, B");
            Dues.due("A the first, B the last", five("uuuoouoooo").is(0), 0);
            Dues.due("A the last, B the first", five("uuououoooo").is(0), 0);
        }

        static void exchangeTakesAnElementOfBAlone() {
            Dues.sentence("there is one y of B, not of A, so that A, y in place of x, is a BASE");
            // Any two elements are in just two of these bases, so for each A and x there is one y, but not of each B.
            SignTriples x = Made.told("signs 6 uuooouoouuoouuouuuoo");
            Dues.due("bases", x.count(2), 10);
            Dues.due("loops", x.count(4), 0);
            Dues.due("pairs", x.count(5), 0);
            Dues.due("exchange", x.is(0), 0);
        }

        static void exchangeIsOfBasesNotOfSigns() {
            Dues.sentence("BASE: a TRIPLE whose SIGN is not 0. EXCHANGE holds");
            for (String word : ONE_BAD_FIVE) {
                Dues.due("exchange", five(word).is(0), 1);
                Dues.due("exchange", five(word.replace('u', 'd')).is(0), 1);
            }
            Dues.due("exchange", five("ududududud").is(0), 1);
        }

        static void aLoopIsOfNoBase() {
            Dues.sentence("LOOP: an ELEMENT of no BASE");
            loopsAndPairs("signs 3 u", 0, 0);
            loopsAndPairs("signs 4 uooo", 8, 0);
            loopsAndPairs("signs 4 oood", 1, 0);
            loopsAndPairs("signs 5 ooooooouoo", 9, 0);
        }

        static void allAreLoopsWithoutABase() {
            Dues.sentence("LOOP: an ELEMENT of no BASE");
            loopsAndPairs("signs 3 o", 7, 0);
            loopsAndPairs("signs 4 oooo", 15, 0);
            loopsAndPairs("signs 5 oooooooooo", 31, 0);
            loopsAndPairs("signs 6 oooooooooooooooooooo", 63, 0);
        }

        static void theFirstAndTheLastMayBeLoops() {
            Dues.sentence("4 LOOPS (bits)");
            loopsAndPairs("signs 6 uooooooooooooooooooo", 56, 0);
            loopsAndPairs("signs 6 ooooooooooooooooooou", 7, 0);
            Dues.due("the first", sixWithLoop("uuuuuuuuuu", false).count(4), 1);
            Dues.due("the last", sixWithLoop("uuuuuuuuuu", true).count(4), 32);
        }

        static void parallelPairsAreTogetherInNoBase() {
            Dues.sentence("PARALLEL: two ELEMENTS, no LOOPS, that are together in no BASE");
            loopsAndPairs("signs 4 uuuu", 0, 0);
            loopsAndPairs("signs 4 uuoo", 0, 1);
            loopsAndPairs("signs 5 uuuooooooo", 0, 3);
            loopsAndPairs("signs 6 uuuuoooooooooooooooo", 0, 6);
            loopsAndPairs("signs 6 uooooooooooooooooood", 0, 9);
        }

        static void loopsAreInNoParallelPair() {
            Dues.sentence("PARALLEL: two ELEMENTS, no LOOPS");
            loopsAndPairs("signs 5 uooooooooo", 24, 0);
            loopsAndPairs("signs 5 uuoooooooo", 16, 1);
            loopsAndPairs("signs 6 uuoooooooooooooooooo", 48, 1);
        }

        // ---- fives

        static void aFiveIsGoodByItsNumbers() {
            Dues.sentence("It is GOOD, if all are 0, or one is above 0 and one below 0");
            allFivesAsTheirNumbers(5, 0, 1, 2, 3, 4);
        }

        static void aFiveIsGoodByItsNumbersWhoeverIsA() {
            Dues.sentence("FIVE: an ELEMENT a and four others b, c, d, e");
            allFivesAsTheirNumbers(5, 1, 0, 2, 3, 4);
            allFivesAsTheirNumbers(5, 4, 0, 1, 2, 3);
            allFivesAsTheirNumbers(6, 5, 0, 1, 2, 4);
            allFivesAsTheirNumbers(6, 2, 5, 4, 1, 0);
        }

        static void aFiveWithOneTwiceIsUnknown() {
            Dues.sentence("UNKNOWN (one twice, too).");
            SignTriples x = Made.allUp(6);
            for (int i = 0; i < 5; i++) {
                for (int j = 0; j < 5; j++) {
                    int[] e = {1, 2, 3, 4, 5};
                    e[i] = e[j];
                    int want = i == j ? 1 : UNKNOWN;
                    Dues.due("five with " + i + " as " + j, x.five(e[0], e[1], e[2], e[3], e[4]), want);
                }
            }
        }

        static void aFiveWithNoSuchElementIsUnknown() {
            Dues.sentence("UNKNOWN (one twice, too).");
            int[] none = {-1, 5, 6, 31, 32, 37, -27, Dues.MIN, Dues.MAX};
            SignTriples x = five("uuuuuuuuuu");
            for (int i = 0; i < 5; i++) {
                for (int other : none) {
                    int[] e = {0, 1, 2, 3, 4};
                    e[i] = other;
                    Dues.due("five with " + other, x.five(e[0], e[1], e[2], e[3], e[4]), UNKNOWN);
                }
            }
            Dues.due("five", x.five(0, 1, 2, 3, 4), 1);
        }

        static void fewerThanFiveElementsHaveNoFives() {
            Dues.sentence("1 the FIVE of ELEMENT a and the four others, as told, is GOOD, 0. UNKNOWN (one twice, too).");
            Dues.due("of three", new SignTriples().five(0, 1, 2, 3, 4), UNKNOWN);
            Dues.due("of four", Made.allUp(4).five(0, 1, 2, 3, 4), UNKNOWN);
            Dues.due("of four", Made.allUp(4).five(0, 1, 2, 3, 3), UNKNOWN);
            Dues.due("of five", Made.allUp(5).five(0, 1, 2, 3, 4), 1);
            Dues.due("of five", Made.allUp(5).five(1, 2, 3, 4, 5), UNKNOWN);
            Dues.due("of six", Made.allUp(6).five(1, 2, 3, 4, 5), 1);
        }

        static void countOfFivesThatAreNotGood() {
            Dues.sentence("3 FIVES that are not GOOD (the four others rising)");
            Dues.due("of three", Made.allUp(3).count(3), 0);
            Dues.due("of four", Made.told("signs 4 udud").count(3), 0);
            Dues.due("of five", five("uuuuuuuuuu").count(3), 0);
            for (int a = 0; a < 5; a++) {
                SignTriples x = five(ONE_BAD_FIVE[a]);
                Dues.due("one of five", x.count(3), 1);
                Dues.due("it", x.five(a, a == 0 ? 1 : 0, a <= 1 ? 2 : 1, a <= 2 ? 3 : 2, a <= 3 ? 4 : 3), 0);
                Dues.due("one of six", sixWithLoop(ONE_BAD_FIVE[a], false).count(3), 1);
                Dues.due("one of six", sixWithLoop(ONE_BAD_FIVE[a], true).count(3), 1);
            }
        }

        static void orderlyIsBoth() {
            Dues.sentence("ORDERLY: EXCHANGE holds, and all FIVES are GOOD");
            isOrderly("signs 5 uuuuuuuuuu", 1, 1);
            isOrderly("signs 6 uooooooooooooooooood", 0, 0);
            Dues.due("fives of those", Made.told("signs 6 uooooooooooooooooood").count(3), 0);
            for (String word : ONE_BAD_FIVE) {
                isOrderly("signs 5 " + word, 1, 0);
                Dues.due("of six, the first a loop", sixWithLoop(word, false).is(1), 0);
                Dues.due("of six, the last a loop", sixWithLoop(word, true).is(1), 0);
            }
        }

        static void threeAndFourElementsHaveNoFivesToBeBad() {
            Dues.sentence("ORDERLY: EXCHANGE holds, and all FIVES are GOOD");
            isOrderly("signs 3 d", 1, 1);
            for (int signs = 0; signs < 16; signs++) {
                StringBuilder word = new StringBuilder();
                for (int t = 0; t < 4; t++) {
                    word.append((signs >> t & 1) == 0 ? 'u' : 'd');
                }
                isOrderly("signs 4 " + word, 1, 1);
            }
        }

        static void isKnows0To3() {
            Dues.sentence("all TRIPLES are BASES (3). OUTSIDE.");
            SignTriples x = new SignTriples();
            int[] others = {-1, 4, 5, Dues.MIN, Dues.MAX};
            for (int what : others) {
                Dues.due("is " + what, x.is(what), OUTSIDE);
            }
            for (int what = 0; what <= 3; what++) {
                Dues.due("is " + what, x.is(what), 1);
            }
        }

        static void eachSignIsItsTurn() {
            Dues.sentence("each SIGN of a TRIPLE is its TURN (2)");
            for (int n = 3; n <= 6; n++) {
                int triples = Made.triples(n);
                Dues.due("all", Made.allUp(n).is(2), 1);
                for (int t = 0; t < triples; t++) {
                    String rest = "u".repeat(triples - t - 1);
                    Dues.due("all but " + t, Made.told("signs " + n + " " + "u".repeat(t) + "o" + rest).is(2), 0);
                    Dues.due("all but " + t, Made.told("signs " + n + " " + "u".repeat(t) + "d" + rest).is(2), 0);
                }
            }
            Dues.due("of nothing", Made.told("signs 3 o;point 0 0 0 0").is(2), 1);
        }

        static void allTriplesAreBases() {
            Dues.sentence("all TRIPLES are BASES (3)");
            for (int n = 3; n <= 6; n++) {
                int triples = Made.triples(n);
                Dues.due("all", Made.told("signs " + n + " " + "d".repeat(triples)).is(3), 1);
                for (int t = 0; t < triples; t++) {
                    String word = "u".repeat(t) + "o" + "d".repeat(triples - t - 1);
                    Dues.due("all but " + t, Made.told("signs " + n + " " + word).is(3), 0);
                }
            }
        }

        // ---- vectors

        static void cocircuitsOfNoBaseAreNone() {
            Dues.sentence("COCIRCUITS (kind 0): of two ELEMENTS a below b, to each e the SIGN of a, b, e, and the OPPOSITE of that; "
                    + "but the one of zeros");
            for (int n = 3; n <= 6; n++) {
                SignTriples x = Made.allNothing(n);
                Dues.due("how many", x.vector(COCIRCUITS, -1, 0), 0);
                Dues.due("the first", x.vector(COCIRCUITS, 0, 0), UNKNOWN);
            }
        }

        static void cocircuitsAreNotOfZeros() {
            Dues.sentence("and the OPPOSITE of that; but the one of zeros");
            Dues.due("with a loop", Made.vectors(Made.told("signs 4 uooo"), COCIRCUITS), "+000 0+00 00+0 00-0 0-00 -000");
            Dues.due("with the first a loop", Made.vectors(Made.told("signs 4 ooou"), COCIRCUITS),
                    "0+00 00+0 000+ 000- 00-0 0-00");
        }

        static void eachVectorIsThereOnce() {
            Dues.sentence("Of each kind each one once");
            Dues.due("with a pair", Made.vectors(Made.told("signs 4 uuoo"), COCIRCUITS), "+000 0+00 00++ 00-- 0-00 -000");
            Dues.due("with an opposite pair", Made.vectors(Made.told("signs 4 udoo"), COCIRCUITS),
                    "+000 0+00 00+- 00-+ 0-00 -000");
            Dues.due("three on one line", Made.vectors(Made.told("signs 4 ouuu"), COCIRCUITS),
                    "++00 +0-0 0++0 000+ 000- 0--0 -0+0 --00");
            Dues.due("circuits with loops", Made.vectors(five("uooooooooo"), CIRCUITS), "000+0 0000+ 0000- 000-0");
        }

        static void theGreatestComesFirst() {
            Dues.sentence("numbered 0, 1 .. from the GREATEST (of two the one with the greater number at the first ELEMENT at which "
                    + "they are unlike)");
            Dues.due("covectors of three", Made.vectors(new SignTriples(), COVECTORS),
                    "+++ ++0 ++- +0+ +00 +0- +-+ +-0 +-- 0++ 0+0 0+- 00+ 000 00- 0-+ 0-0 0-- -++ -+0 -+- -0+ -00 -0- --+ --0 ---");
            Dues.due("topes of four", Made.vectors(Made.allUp(4), TOPES),
                    "++++ +++- ++-+ ++-- +-++ +--+ +--- -+++ -++- -+-- --++ --+- ---+ ----");
            Dues.due("circuits of four", Made.vectors(Made.allUp(4), CIRCUITS), "+-+- -+-+");
        }

        static void circuitsAreOfFourElements() {
            Dues.sentence("CIRCUITS (kind 1): of four ELEMENTS a, b, c, d, rising");
            SignTriples three = new SignTriples();
            Dues.due("of three", three.vector(CIRCUITS, -1, 0), 0);
            Dues.due("the first of three", three.vector(CIRCUITS, 0, 0), UNKNOWN);
            Dues.due("of four", Made.allUp(4).vector(CIRCUITS, -1, 0), 2);
            Dues.due("of five", Made.allUp(5).vector(CIRCUITS, -1, 0), 10);
            Dues.due("of six", Made.allUp(6).vector(CIRCUITS, -1, 0), 30);
        }

        static void circuitsHaveEachSignAtItsElement() {
            Dues.sentence("to a SIGN of b, c, d; to b that of a, c, d, times -1; to c that of a, b, d; to d that of a, b, c, times -1");
            Dues.due("a", Made.vectors(Made.told("signs 4 ooou"), CIRCUITS), "+000 -000");
            Dues.due("b", Made.vectors(Made.told("signs 4 oouo"), CIRCUITS), "0+00 0-00");
            Dues.due("c", Made.vectors(Made.told("signs 4 ouoo"), CIRCUITS), "00+0 00-0");
            Dues.due("d", Made.vectors(Made.told("signs 4 uooo"), CIRCUITS), "000+ 000-");
            Dues.due("a, b", Made.vectors(Made.told("signs 4 oouu"), CIRCUITS), "+-00 -+00");
            Dues.due("a, c", Made.vectors(Made.told("signs 4 ouou"), CIRCUITS), "+0+0 -0-0");
            Dues.due("a, d", Made.vectors(Made.told("signs 4 uoou"), CIRCUITS), "+00- -00+");
        }

        static void circuitsAreNotOfZeros() {
            Dues.sentence("0 to all others; and the OPPOSITE of that; but the one of zeros");
            for (int n = 4; n <= 6; n++) {
                Dues.due("of no base", Made.allNothing(n).vector(CIRCUITS, -1, 0), 0);
            }
            Dues.due("of one base of six", Made.vectors(Made.told("signs 6 uooooooooooooooooooo"), CIRCUITS),
                    "000+00 0000+0 00000+ 00000- 0000-0 000-00");
        }

        static void theVectorOfZerosIsACovector() {
            Dues.sentence("COVECTORS (kind 2): the VECTOR of zeros, COCIRCUITS, all that is COMPOSED of two COVECTORS");
            for (int n = 3; n <= 6; n++) {
                SignTriples x = Made.allUp(n);
                int middle = x.vector(COVECTORS, -1, 0) / 2;
                Dues.due("the middle one", Made.vector(x, COVECTORS, middle), "0".repeat(n));
            }
        }

        static void vectorsOfEachKindAreSoMany() {
            Dues.sentence("Of a kind (0 .. 3) of VECTORS: how many (k -1; the ELEMENT does not matter)");
            kinds(Made.allUp(3), 6, 0, 27, 8);
            kinds(Made.allUp(4), 12, 2, 51, 14);
            kinds(Made.allUp(5), 20, 10, 83, 22);
            kinds(Made.allUp(6), 30, 30, 123, 32);
            kinds(Made.told("signs 6 ooooooooooooooooooou"), 6, 6, 27, 8);
        }

        static void topesHaveTheFewestZeros() {
            Dues.sentence("TOPES (kind 3): the COVECTORS with the fewest zeros");
            Dues.due("without a loop", Made.vector(Made.allUp(6), TOPES, 0), "++++++");
            Dues.due("with a loop", Made.vectors(Made.told("signs 4 uooo"), TOPES),
                    "+++0 ++-0 +-+0 +--0 -++0 -+-0 --+0 ---0");
            Dues.due("with the first a loop", Made.vectors(Made.told("signs 4 ooou"), TOPES),
                    "0+++ 0++- 0+-+ 0+-- 0-++ 0-+- 0--+ 0---");
            Dues.due("with three loops", Made.vectors(Made.told("signs 6 ooooooooooooooooooou"), TOPES),
                    "000+++ 000++- 000+-+ 000+-- 000-++ 000-+- 000--+ 000---");
        }

        static void notOrderlyHasNoCovectorsNorTopes() {
            Dues.sentence("(If all is not ORDERLY there are no COVECTORS, TOPES to tell of: NOT.)");
            SignTriples[] all = {notOrderly(), Made.allNothing(3), Made.told("signs 6 uooooooooooooooooood")};
            for (SignTriples x : all) {
                int[] ks = {-1, 0, 1, 1000, Dues.MAX};
                for (int k : ks) {
                    Dues.due("covectors", x.vector(COVECTORS, k, 0), NOT);
                    Dues.due("topes", x.vector(TOPES, k, 0), NOT);
                }
            }
        }

        static void notOrderlyHasCocircuitsAndCircuits() {
            Dues.sentence("NOT: kinds 2, 3, not ORDERLY");
            SignTriples x = notOrderly();
            Dues.due("cocircuits", x.vector(COCIRCUITS, -1, 0) > 0 ? 1 : 0, 1);
            Dues.due("circuits", x.vector(CIRCUITS, -1, 0) > 0 ? 1 : 0, 1);
            SignTriples y = Made.told("signs 6 uooooooooooooooooood");
            Dues.due("cocircuits", y.vector(COCIRCUITS, -1, 0), 12);
            Dues.due("circuits", y.vector(CIRCUITS, -1, 0), 12);
        }

        static void kindsAre0To3() {
            Dues.sentence("OUTSIDE: kind, k below -1");
            SignTriples x = new SignTriples();
            int[] others = {-1, 4, 5, Dues.MIN, Dues.MAX};
            for (int kind : others) {
                Dues.due("kind " + kind, x.vector(kind, 0, 0), OUTSIDE);
                Dues.due("kind " + kind, x.vector(kind, -1, 0), OUTSIDE);
                Dues.due("kind " + kind, x.vector(kind, 99, 9), OUTSIDE);
                Dues.due("kind " + kind, notOrderly().vector(kind, 0, 0), OUTSIDE);
            }
        }

        static void kBelowMinus1IsOutside() {
            Dues.sentence("OUTSIDE: kind, k below -1; NOT: kinds 2, 3, not ORDERLY; UNKNOWN.");
            SignTriples x = new SignTriples();
            SignTriples y = notOrderly();
            for (int kind = 0; kind <= 3; kind++) {
                Dues.due("k -2", x.vector(kind, -2, 0), OUTSIDE);
                Dues.due("k -2 of no element", x.vector(kind, -2, 9), OUTSIDE);
                Dues.due("k MIN", x.vector(kind, Dues.MIN, 0), OUTSIDE);
                Dues.due("k -2, not orderly", y.vector(kind, -2, 0), OUTSIDE);
            }
        }

        static void theElementDoesNotMatterForHowMany() {
            Dues.sentence("how many (k -1; the ELEMENT does not matter)");
            SignTriples x = new SignTriples();
            int[] elements = {-1, 0, 2, 3, 100, Dues.MIN, Dues.MAX};
            int[] many = {6, 0, 27, 8};
            for (int element : elements) {
                for (int kind = 0; kind <= 3; kind++) {
                    Dues.due("how many", x.vector(kind, -1, element), many[kind]);
                }
            }
        }

        static void theLastVectorAndOneMore() {
            Dues.sentence("of the k-th the number of an ELEMENT. OUTSIDE: kind, k below -1; NOT: kinds 2, 3, not ORDERLY; UNKNOWN.");
            SignTriples x = Made.allUp(4);
            for (int kind = 0; kind <= 3; kind++) {
                int many = x.vector(kind, -1, 0);
                Dues.due("the last", Made.vector(x, kind, many - 1), opposite(Made.vector(x, kind, 0)));
                Dues.due("one more", x.vector(kind, many, 0), UNKNOWN);
                Dues.due("the farthest", x.vector(kind, Dues.MAX, 0), UNKNOWN);
                Dues.due("of element 4", x.vector(kind, 0, 4), UNKNOWN);
                Dues.due("of element -1", x.vector(kind, many - 1, -1), UNKNOWN);
                Dues.due("of element MIN", x.vector(kind, 0, Dues.MIN), UNKNOWN);
            }
        }

        static void vectorsAreOfTheSignsThatThereAre() {
            Dues.sentence("Of a kind (0 .. 3) of VECTORS: how many");
            SignTriples x = new SignTriples();
            kinds(x, 6, 0, 27, 8);
            x.add(1, 3, 9);
            kinds(x, 12, 2, 51, 14);
            x.keep(0);
            x.set(0, 1, 2, 0);
            kinds(x, 8, 2, 39, 12);
            x.undo();
            kinds(x, 12, 2, 51, 14);
            x.drop(1);
            kinds(x, 6, 0, 27, 8);
            x.back(0);
            kinds(x, 12, 2, 51, 14);
            Made.write(x, "signs 5 uuuuuuuuuu");
            x.tell();
            kinds(x, 20, 10, 83, 22);
            x.place(0, 0, 0, 0);
            x.draw();
            kinds(x, 12, 4, 51, 14);
        }

        // ---- topes that are next

        static void noTopeIsNextToItself() {
            Dues.sentence("Of two TOPES the one is NEXT to the other one (none is to itself)");
            SignTriples x = Made.allUp(4);
            for (int tope = 0; tope < 14; tope++) {
                Dues.due("what 0", x.between(tope, tope, 0), 0);
                Dues.due("what 1", x.between(tope, tope, 1), 0);
                Dues.due("what 2", x.between(tope, tope, 2), 0);
            }
        }

        static void topesOneElementApartAreNext() {
            Dues.sentence("if no third TOPE is SEPARATED from that by nothing but ELEMENTS by which the first is, too");
            SignTriples x = Made.allUp(4);
            String[] topes = Made.vectors(x, TOPES).split(" ");
            for (int i = 0; i < topes.length; i++) {
                int next = 0;
                for (int j = 0; j < topes.length; j++) {
                    int apart = unlike(topes[i], topes[j]);
                    next += apart == 1 ? 1 : 0;
                    // Two topes of four simple elements are as many steps apart as elements separate them.
                    Dues.due("between " + i + " and " + j, x.between(i, j, j % 3), new int[] {apart, apart == 1 ? 1 : 0, apart}[j % 3]);
                }
                Dues.due("beside " + i, x.beside(i), next);
            }
        }

        static void topesAParallelPairApartAreNext() {
            Dues.sentence("if no third TOPE is SEPARATED from that by nothing but ELEMENTS by which the first is, too");
            String[] texts = {"signs 4 uuoo", "signs 4 udoo", "signs 5 uuoooooooo"};
            for (String text : texts) {
                SignTriples x = Made.told(text);
                Dues.due("separated by", x.between(0, 1, 0), 2);
                Dues.due("next", x.between(0, 1, 1), 1);
                Dues.due("steps", x.between(0, 1, 2), 1);
                Dues.due("beside", x.beside(0), 3);
                Dues.due("two apart", x.between(0, 3, 1), 0);
                Dues.due("steps", x.between(0, 3, 2), 2);
                Dues.due("opposite: separated by", x.between(0, 7, 0), 4);
                Dues.due("opposite: steps", x.between(0, 7, 2), 3);
            }
        }

        static void stepsToTheOpposite() {
            Dues.sentence("STEPS from a TOPE to a TOPE: the fewest, each to one that is NEXT");
            for (int n = 3; n <= 6; n++) {
                SignTriples x = Made.allUp(n);
                int topes = x.vector(TOPES, -1, 0);
                for (int tope = 0; tope < topes; tope++) {
                    Dues.due("to the opposite", x.between(tope, topes - 1 - tope, 2), n);
                    Dues.due("separated", x.between(tope, topes - 1 - tope, 0), n);
                    Dues.due("next", x.between(tope, topes - 1 - tope, 1), 0);
                }
            }
        }

        static void topesWithLoopsAreSeparatedByTheOthers() {
            Dues.sentence("SEPARATED by two TOPES: ELEMENTS at which they are unlike");
            SignTriples x = Made.told("signs 6 ooooooooooooooooooou");
            Dues.due("separated", x.between(0, 7, 0), 3);
            Dues.due("steps", x.between(0, 7, 2), 3);
            Dues.due("beside", x.beside(7), 3);
        }

        static void besideHasTheFirstAndTheLastTope() {
            Dues.sentence("How many TOPES are NEXT to one. NOT: not ORDERLY; UNKNOWN.");
            for (int n = 3; n <= 6; n++) {
                SignTriples x = Made.allUp(n);
                int topes = x.vector(TOPES, -1, 0);
                Dues.due("the first", x.beside(0), n);
                Dues.due("the last", x.beside(topes - 1), n);
                Dues.due("one more", x.beside(topes), UNKNOWN);
                Dues.due("-1", x.beside(-1), UNKNOWN);
                Dues.due("MIN", x.beside(Dues.MIN), UNKNOWN);
                Dues.due("MAX", x.beside(Dues.MAX), UNKNOWN);
            }
        }

        static void besideIsNotForWhatIsNotOrderly() {
            Dues.sentence("How many TOPES are NEXT to one. NOT: not ORDERLY; UNKNOWN.");
            int[] topes = {-1, 0, 1000, Dues.MIN, Dues.MAX};
            for (int tope : topes) {
                Dues.due("beside", notOrderly().beside(tope), NOT);
                Dues.due("beside", Made.allNothing(3).beside(tope), NOT);
            }
        }

        static void betweenKnows0To2() {
            Dues.sentence("OUTSIDE; NOT: not ORDERLY; UNKNOWN.");
            int[] others = {-1, 3, 4, Dues.MIN, Dues.MAX};
            for (int what : others) {
                Dues.due("what " + what, new SignTriples().between(0, 1, what), OUTSIDE);
                Dues.due("what " + what + ", no tope", new SignTriples().between(8, -1, what), OUTSIDE);
                Dues.due("what " + what + ", not orderly", notOrderly().between(0, 1, what), OUTSIDE);
            }
            for (int what = 0; what <= 2; what++) {
                Dues.due("what " + what, new SignTriples().between(0, 1, what), 1);
                Dues.due("not orderly", notOrderly().between(0, 1, what), NOT);
                Dues.due("not orderly, no tope", notOrderly().between(-1, 1000, what), NOT);
            }
        }

        static void betweenHasTheFirstAndTheLastTope() {
            Dues.sentence("Of two TOPES (or of one and itself)");
            for (int n = 3; n <= 6; n++) {
                SignTriples x = Made.allUp(n);
                int topes = x.vector(TOPES, -1, 0);
                int[] none = {-1, topes, 64, 65, Dues.MIN, Dues.MAX};
                for (int what = 0; what <= 2; what++) {
                    Dues.due("the first and the last", x.between(0, topes - 1, what), what == 1 ? 0 : n);
                    for (int tope : none) {
                        Dues.due("none and the first", x.between(tope, 0, what), UNKNOWN);
                        Dues.due("the last and none", x.between(topes - 1, tope, what), UNKNOWN);
                        Dues.due("none and itself", x.between(tope, tope, what), UNKNOWN);
                    }
                }
            }
        }

        // ---- what is foretold

        static void aMutationIsABase() {
            Dues.sentence("MUTATION: a BASE so that, its SIGN alone times -1, all would be ORDERLY");
            SignTriples x = Made.told("signs 4 uoud");
            int[] due = {1, 0, 1, 1};
            for (int t = 0; t < 4; t++) {
                Dues.due("mutation " + t, x.mutation(t), due[t]);
            }
            Dues.due("how many", x.mutation(-1), 3);
            SignTriples one = Made.told("signs 6 ooooooooooooooooooou");
            Dues.due("the last", one.mutation(19), 1);
            Dues.due("the one ahead", one.mutation(18), 0);
            Dues.due("how many", one.mutation(-1), 1);
        }

        static void aMutationLeavesAllOrderly() {
            Dues.sentence("MUTATION: a BASE so that, its SIGN alone times -1, all would be ORDERLY");
            for (int n = 3; n <= 6; n++) {
                SignTriples x = Made.allUp(n);
                int triples = Made.triples(n);
                int all = 0;
                for (int t = 0; t < triples; t++) {
                    SignTriples turned = Made.told("signs " + n + " " + "u".repeat(t) + "d" + "u".repeat(triples - t - 1));
                    Dues.due("mutation " + t, x.mutation(t), turned.is(1));
                    all += turned.is(1);
                }
                Dues.due("how many", x.mutation(-1), all);
                Dues.due("how many", all, n == 3 ? 1 : n);
            }
        }

        static void aMutationLeavesEachFiveGood() {
            Dues.sentence("MUTATION: a BASE so that, its SIGN alone times -1, all would be ORDERLY");
            for (int a = 0; a < 5; a++) {
                SignTriples x = five(ONE_BAD_FIVE_IF_TURNED[a]);
                Dues.due("orderly", x.is(1), 1);
                Dues.due("turned", x.mutation(TURNED[a]), 0);
                SignTriples six = sixWithLoop(ONE_BAD_FIVE_IF_TURNED[a], false);
                Dues.due("turned, of six", six.mutation(10 + TURNED[a]), 0);
            }
        }

        static void mutationsHaveNumbersOfTriples() {
            Dues.sentence("1 a TRIPLE (by its number) is a MUTATION, 0; how many are (triple -1). NOT: not ORDERLY; UNKNOWN.");
            for (int n = 3; n <= 6; n++) {
                SignTriples x = Made.allUp(n);
                int triples = Made.triples(n);
                Dues.due("the last", x.mutation(triples - 1), 1);
                int[] none = {-2, triples, 20, 31, 32, Dues.MIN, Dues.MAX};
                for (int t : none) {
                    Dues.due("triple " + t, x.mutation(t), UNKNOWN);
                }
            }
        }

        static void mutationsAreNotForWhatIsNotOrderly() {
            Dues.sentence("FORETOLD (nothing changes; NOT, if all is not ORDERLY)");
            int[] triples = {-2, -1, 0, 9, 10, Dues.MIN, Dues.MAX};
            for (int t : triples) {
                Dues.due("mutation", notOrderly().mutation(t), NOT);
                Dues.due("mutation", Made.allNothing(3).mutation(t), NOT);
            }
            Dues.due("extensions", Made.allNothing(3).extensions(), NOT);
            Dues.due("extensions", Made.allNothing(4).extensions(), NOT);
            Dues.due("extensions", notOrderly().extensions(), NOT);
        }

        static void foretellingChangesNothing() {
            Dues.sentence("FORETOLD (nothing changes");
            SignTriples x = Made.told("signs 4 uoud;point 3 1 2 3");
            x.flip(0);
            String was = Made.state(x);
            x.mutation(-1);
            x.mutation(0);
            x.extensions();
            Dues.due("state", Made.state(x), was);
            Dues.due("mutations again", x.mutation(-1), 3);
            Dues.due("undo", x.undo(), 0);
            Dues.due("signs", Made.signs(x), "uoud");
        }

        static void extensionsAreOf4ElementsAtMost() {
            Dues.sentence("EXTENSIONS. NOT: not ORDERLY, or more than 4 ELEMENTS.");
            Dues.due("of three", Made.allUp(3).extensions(), 27);
            Dues.due("of four", Made.allUp(4).extensions(), 75);
            Dues.due("of five", Made.allUp(5).extensions(), NOT);
            Dues.due("of six", Made.allUp(6).extensions(), NOT);
        }

        static void extensionsStaySigns() {
            Dues.sentence("in how many ways one ELEMENT more could be there, the SIGNS that there are staying, all being ORDERLY");
            Dues.due("of three, turned", Made.told("signs 3 d").extensions(), 27);
            Dues.due("with a loop", Made.told("signs 4 uooo").extensions(), 27);
            Dues.due("with a pair", Made.told("signs 4 uuoo").extensions(), 27);
            Dues.due("with three on one line", Made.told("signs 4 ouuu").extensions(), 39);
            for (int signs = 0; signs < 16; signs++) {
                SignTriples x = Made.allUp(4);
                for (int t = 0; t < 4; t++) {
                    x.set(t == 0 ? 1 : 0, t <= 1 ? 2 : 1, t <= 2 ? 3 : 2, (signs >> t & 1) == 0 ? 1 : -1);
                }
                Dues.due("without a zero", x.extensions(), 75);
            }
        }

        static void aNewObjectHasFindings() {
            Dues.sentence("Three ELEMENTS, a SIGN 1.");
            Dues.due("mutations", new SignTriples().mutation(-1), 1);
            Dues.due("mutation 0", new SignTriples().mutation(0), 1);
            Dues.due("extensions", new SignTriples().extensions(), 27);
            Dues.due("beside", new SignTriples().beside(7), 3);
            Dues.due("steps", new SignTriples().between(0, 7, 2), 3);
            Dues.due("topes", new SignTriples().vector(TOPES, -1, 0), 8);
            Dues.due("exchange", new SignTriples().is(0), 1);
            Dues.due("orderly", new SignTriples().is(1), 1);
            Dues.due("loops", new SignTriples().count(4), 0);
            Dues.due("pairs", new SignTriples().count(5), 0);
        }

        static void whatIsFoundIsOfTheSignsThatThereAre() {
            Dues.sentence("the SIGNS that there are staying");
            SignTriples x = new SignTriples();
            String[] words = {"signs 4 uuuu", "signs 4 uuoo", "signs 4 oooo", "signs 6 uuuuuuuuuuuuuuuuuuuu", "signs 4 uooo",
                "signs 5 uuuuouoooo", "signs 5 uuuoouoooo", "signs 3 u", "signs 4 ouuu", "signs 6 uooooooooooooooooood",
                "signs 3 o", "signs 4 uuoo", "signs 4 uuuu"};
            for (String word : words) {
                Made.write(x, word);
                x.tell();
                Dues.due("found of " + word, found(x), found(Made.told(word)));
            }
        }

        static void whatIsFoundBehindEachDeed() {
            Dues.sentence("the SIGNS that there are staying");
            SignTriples x = Made.allUp(4);
            x.keep(0);
            found(x);
            x.set(1, 2, 3, 0);
            Dues.due("set", found(x), found(Made.told("signs 4 uuuo")));
            x.set(0, 2, 3, 0);
            x.flip(2);
            Dues.due("flip", found(x), found(Made.told("signs 4 duoo")));
            x.swap(0, 3);
            Dues.due("swap", found(x), found(Made.told("signs 4 " + Made.signs(x))));
            x.add(1, 2, 4);
            Dues.due("add", found(x), found(Made.told("signs 5 " + Made.signs(x))));
            x.drop(0);
            Dues.due("drop", found(x), found(Made.told("signs 4 " + Made.signs(x))));
            x.draw();
            Dues.due("draw", found(x), found(Made.told("signs 4 " + Made.signs(x))));
            x.undo();
            Dues.due("undo", found(x), found(Made.told("signs 4 " + Made.signs(x))));
            x.back(0);
            Dues.due("back", found(x), found(Made.told("signs 4 uuuu")));
        }

        static void pointsDoNotMatterForExtensions() {
            Dues.sentence("(those of TRIPLES with it; its POINT does not matter)");
            SignTriples x = Made.told("signs 4 uuuu;point 0 0 0 0;point 1 0 0 0;point 2 0 0 0;point 3 0 0 0");
            Dues.due("of four", x.extensions(), 75);
            SignTriples three = Made.told("point 0 0 0 0");
            Dues.due("of three", three.extensions(), 27);
        }
    }
}
