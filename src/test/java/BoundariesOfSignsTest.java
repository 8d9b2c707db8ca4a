/**
 * Each sentence on ELEMENTS, SIGNS, POINTS and what is done to them that names a boundary case,
 * from "What it is", "Terms" and promises 1 and 6 to 18, by a test of its own.
 */
public final class BoundariesOfSignsTest {
    private static final int UNKNOWN = SignTriples.UNKNOWN;
    private static final int OUTSIDE = SignTriples.OUTSIDE;
    private static final int NOT = SignTriples.NOT;
    private static final int FULL = SignTriples.FULL;
    private static final int[] NO_ELEMENTS = {-1, 6, 7, 31, 32, 64, -64, Dues.MIN, Dues.MAX};

    public static void main(String[] args) {
        Dues.runAll(Tests.class);
    }

    /** One of each of the seven deeds that can be undone, none of which changes anything. */
    private static void idleDeed(SignTriples x, int which) {
        switch (which) {
            case 0 -> x.set(0, 1, 2, x.sign(0, 1, 2));
            case 1 -> x.place(0, x.point(0, 0), x.point(0, 1), x.point(0, 2));
            case 2 -> x.flip(2);
            case 3 -> x.swap(0, 1);
            default -> x.draw();
        }
    }

    private static void setAll(SignTriples x, int v) {
        int n = x.count(0);
        for (int a = 0; a < n; a++) {
            for (int b = a + 1; b < n; b++) {
                for (int c = b + 1; c < n; c++) {
                    x.set(a, b, c, v);
                }
            }
        }
    }

    /** The answer of each call that names an element, the others being 0, 1 and so on. */
    private static void elementIsUnknown(SignTriples x, int element) {
        Dues.due("sign " + element, x.sign(element, 0, 1), UNKNOWN);
        Dues.due("sign 0 " + element, x.sign(0, element, 1), UNKNOWN);
        Dues.due("sign 0 1 " + element, x.sign(0, 1, element), UNKNOWN);
        Dues.due("turn " + element, x.turn(element, 0, 1), UNKNOWN);
        Dues.due("turn 0 " + element, x.turn(0, element, 1), UNKNOWN);
        Dues.due("turn 0 1 " + element, x.turn(0, 1, element), UNKNOWN);
        Dues.due("point " + element, x.point(element, 0), UNKNOWN);
        Dues.due("set " + element, x.set(element, 0, 1, 1), UNKNOWN);
        Dues.due("set 0 " + element, x.set(0, element, 1, 1), UNKNOWN);
        Dues.due("set 0 1 " + element, x.set(0, 1, element, 1), UNKNOWN);
        Dues.due("place " + element, x.place(element, 0, 0, 0), UNKNOWN);
        Dues.due("flip " + element, x.flip(element), UNKNOWN);
        Dues.due("swap " + element, x.swap(element, 0), UNKNOWN);
        Dues.due("swap 0 " + element, x.swap(0, element), UNKNOWN);
        Dues.due("drop " + element, x.drop(element), UNKNOWN);
        Dues.due("vector 0 0 " + element, x.vector(0, 0, element), UNKNOWN);
    }

    private static void elementIsKnown(SignTriples x, int element) {
        int a = (element + 1) % 3 == element ? 0 : (element + 1) % 3;
        int b = (element + 2) % 3;
        Dues.due("sign " + element, x.sign(element, a, b) != UNKNOWN ? 1 : 0, 1);
        Dues.due("turn " + element, x.turn(a, element, b) != UNKNOWN ? 1 : 0, 1);
        Dues.due("point " + element, x.point(element, 0), 1);
        Dues.due("vector 0 0 " + element, x.vector(0, 0, element) != UNKNOWN ? 1 : 0, 1);
        Dues.due("place " + element, x.place(element, 1, 9, 9), 1);
        Dues.due("flip " + element, x.flip(element) > 0 ? 1 : 0, 1);
        Dues.due("swap " + element, x.swap(element, a) != UNKNOWN ? 1 : 0, 1);
    }

    static final class Tests {
        // ---- what it is

        static void theLastOf512CallsIsAnsweredAsTheFirst() {
            Dues.sentence("An object is used for at most 512 calls after it has been made");
            SignTriples x = new SignTriples();
            for (int call = 1; call <= 509; call++) {
                Dues.due("flip, call " + call, x.flip(call % 3), 1);
            }
            Dues.due("call 510", x.sign(0, 1, 2), -1);
            Dues.due("call 511", x.undo(), 7);
            Dues.due("call 512", x.sign(0, 1, 2), 1);
        }

        static void the512CallsMayAllBeTheDearest() {
            Dues.sentence("An object is used for at most 512 calls after it has been made");
            SignTriples x = Made.told("signs 4 uuuu");
            for (int i = 0; i < 240; i++) {
                Dues.due("flip", x.flip(i % 4), 3);
                Dues.due("extensions", x.extensions(), 75);
            }
        }

        static void the512CallsMayAllAddAndDrop() {
            Dues.sentence("An object is used for at most 512 calls after it has been made");
            SignTriples x = Made.allUp(5);
            for (int i = 0; i < 160; i++) {
                Dues.due("add", x.add(1, 5, 25), 6);
                Dues.due("topes", x.vector(3, -1, 0), 32);
                Dues.due("drop", x.drop(5), 5);
            }
        }

        // ---- promise 1 and "Terms"

        static void aNewObjectHasThreeElements() {
            Dues.sentence("Three ELEMENTS, a SIGN 1.");
            SignTriples x = new SignTriples();
            Dues.due("elements", x.count(0), 3);
            Dues.due("triples", x.count(1), 1);
            Dues.due("sign", x.sign(0, 1, 2), 1);
            Dues.due("bases", x.count(2), 1);
            Dues.due("element 2", x.point(2, 0), 1);
            Dues.due("element 3", x.point(3, 0), UNKNOWN);
        }

        static void aNewObjectHasNothingElse() {
            Dues.sentence("Three ELEMENTS, a SIGN 1.");
            SignTriples x = new SignTriples();
            Dues.due("can be undone", x.count(6), 0);
            Dues.due("letters", x.count(7), 0);
            Dues.due("vectors on boxes", x.count(8), 0);
            Dues.due("undo", x.undo(), NOT);
            Dues.due("back 0", x.back(0), NOT);
            Dues.due("back 1", x.back(1), NOT);
            for (int box = 0; box < 3; box++) {
                Dues.due("box", x.away(box), SignTriples.NULL);
            }
        }

        static void objectsHaveNothingInCommon() {
            Dues.sentence("Three ELEMENTS, a SIGN 1.");
            SignTriples one = new SignTriples();
            one.add(0, 0, 1);
            one.keep(0);
            one.box(0, 0, 1);
            one.lay(0, 0, 3, 0);
            one.write('a');
            SignTriples other = new SignTriples();
            Dues.due("state", Made.state(other), "u 1 0 0;1 1 1;1 2 4; 3 1 1 0 0 0 0 0 0 [?] [?] [?] 0");
            Dues.due("back", other.back(0), NOT);
        }

        static void elementsAre3To6() {
            Dues.sentence("ELEMENTS 0 .. n less 1, n 3 .. 6 (3 at first)");
            SignTriples x = new SignTriples();
            Dues.due("a third less", x.drop(0), NOT);
            for (int n = 4; n <= 6; n++) {
                Dues.due("one more", x.add(0, 0, n), n);
            }
            Dues.due("a seventh", x.add(0, 0, 7), FULL);
            for (int n = 5; n >= 3; n--) {
                Dues.due("one less", x.drop(0), n);
            }
            Dues.due("a third less", x.drop(0), NOT);
        }

        static void elementsGoFrom0ToNLess1() {
            Dues.sentence("UNKNOWN -1001 (no such ELEMENT");
            for (int n = 3; n <= 6; n++) {
                SignTriples x = Made.allUp(n);
                for (int e = 0; e < n; e++) {
                    elementIsKnown(Made.allUp(n), e);
                }
                for (int e = n; e <= 6; e++) {
                    elementIsUnknown(x, e);
                }
            }
        }

        static void elementsFarOffAreUnknown() {
            Dues.sentence("UNKNOWN -1001 (no such ELEMENT");
            SignTriples x = Made.allUp(6);
            for (int e : NO_ELEMENTS) {
                elementIsUnknown(x, e);
            }
            Dues.due("nothing changes", Made.signs(x), "u".repeat(20));
            Dues.due("nothing changes", x.count(6), 0);
        }

        static void anElementThatWentIsUnknown() {
            Dues.sentence("UNKNOWN -1001 (no such ELEMENT");
            SignTriples x = Made.allUp(6);
            x.drop(2);
            elementIsUnknown(x, 5);
            SignTriples y = Made.allUp(3);
            y.add(0, 0, 1);
            y.undo();
            elementIsUnknown(y, 3);
        }

        static void triplesAreAsManyAsThereAreThreesRising() {
            Dues.sentence("TRIPLES: three ELEMENTS a, b, c, a below b, b below c");
            int[] triples = {1, 4, 10, 20};
            for (int n = 3; n <= 6; n++) {
                Dues.due("triples of " + n, Made.allUp(n).count(1), triples[n - 3]);
            }
        }

        static void triplesAreNumberedByAThenByBThenByC() {
            Dues.sentence("numbered by a, of like ones by b, then by c");
            // Of four elements with one sign alone, that sign is the one base, so the one mutation.
            for (int t = 0; t < 4; t++) {
                SignTriples x = Made.allNothing(4);
                x.set(t == 3 ? 1 : 0, t < 2 ? 1 : 2, t == 0 ? 2 : 3, 1);
                for (int other = 0; other < 4; other++) {
                    Dues.due("mutation " + other, x.mutation(other), other == t ? 1 : 0);
                }
            }
        }

        static void signsOfThreeInAnyOrder() {
            Dues.sentence("that of the TRIPLE, times -1 for each two of them that stand the greater one ahead");
            SignTriples x = Made.told("signs 6 uoduuddoouuodduouddo");
            String word = "uoduuddoouuodduouddo";
            int t = 0;
            for (int a = 0; a < 6; a++) {
                for (int b = a + 1; b < 6; b++) {
                    for (int c = b + 1; c < 6; c++) {
                        int v = "dou".indexOf(word.charAt(t)) - 1;
                        Dues.due("abc " + t, x.sign(a, b, c), v);
                        Dues.due("bca " + t, x.sign(b, c, a), v);
                        Dues.due("cab " + t, x.sign(c, a, b), v);
                        Dues.due("acb " + t, x.sign(a, c, b), -v);
                        Dues.due("bac " + t, x.sign(b, a, c), -v);
                        Dues.due("cba " + t, x.sign(c, b, a), -v);
                        t++;
                    }
                }
            }
        }

        static void signOfTheSameIsNothing() {
            Dues.sentence("0, if two are the same");
            SignTriples x = Made.allUp(6);
            for (int a = 0; a < 6; a++) {
                for (int b = 0; b < 6; b++) {
                    Dues.due("sign aab", x.sign(a, a, b), 0);
                    Dues.due("sign aba", x.sign(a, b, a), 0);
                    Dues.due("sign baa", x.sign(b, a, a), 0);
                }
            }
        }

        static void signOfTheSameStaysNothing() {
            Dues.sentence("SIGN of three ELEMENTS in this order (two may be the same).");
            SignTriples x = Made.allUp(4);
            x.flip(1);
            x.swap(1, 2);
            x.drop(0);
            x.draw();
            x.add(0, 0, 1);
            for (int a = 0; a < 4; a++) {
                for (int b = 0; b < 4; b++) {
                    Dues.due("sign aab", x.sign(a, a, b), 0);
                    Dues.due("sign aba", x.sign(a, b, a), 0);
                    Dues.due("sign baa", x.sign(b, a, a), 0);
                    Dues.due("turn aab", x.turn(a, a, b), 0);
                    Dues.due("turn aba", x.turn(a, b, a), 0);
                    Dues.due("turn baa", x.turn(b, a, a), 0);
                }
            }
        }

        static void twoOfTheSameUnknownElementAreUnknown() {
            Dues.sentence("UNKNOWN: no such ELEMENT.");
            SignTriples x = new SignTriples();
            Dues.due("sign 3 3 0", x.sign(3, 3, 0), UNKNOWN);
            Dues.due("sign 0 3 3", x.sign(0, 3, 3), UNKNOWN);
            Dues.due("sign 3 3 3", x.sign(3, 3, 3), UNKNOWN);
            Dues.due("turn 3 0 3", x.turn(3, 0, 3), UNKNOWN);
            Dues.due("turn 0 0 3", x.turn(0, 0, 3), UNKNOWN);
            Dues.due("turn -1 -1 -1", x.turn(-1, -1, -1), UNKNOWN);
        }

        static void pointsAtFirst() {
            Dues.sentence("at first, of ELEMENT e: 1, e, e times e");
            Dues.due("of a new one", Made.points(new SignTriples()), "1 0 0;1 1 1;1 2 4;");
            Dues.due("of six", Made.points(Made.allUp(6)), "1 0 0;1 1 1;1 2 4;1 3 9;1 4 16;1 5 25;");
        }

        // ---- turns

        static void turnIsOneJustAboveNothing() {
            Dues.sentence("TURN of three ELEMENTS, with POINTS p, q, r: 1, if p0 (q1 r2 - q2 r1) - p1 (q0 r2 - q2 r0) "
                    + "+ p2 (q0 r1 - q1 r0) is above 0, -1 below, else 0");
            SignTriples x = Made.told("point 0 1 0 0;point 1 0 1 0;point 2 0 0 1");
            Dues.due("of 1", x.turn(0, 1, 2), 1);
            x.place(2, 0, 0, -1);
            Dues.due("of -1", x.turn(0, 1, 2), -1);
            x.place(2, 0, 0, 0);
            Dues.due("of 0", x.turn(0, 1, 2), 0);
            x.place(2, 99, 99, 0);
            Dues.due("of 0", x.turn(0, 1, 2), 0);
            x.place(0, 99, 98, 97);
            x.place(1, 98, 97, 96);
            x.place(2, 97, 96, 95);
            Dues.due("of 0, from great numbers", x.turn(0, 1, 2), 0);
            x.place(2, 97, 96, 94);
            Dues.due("of a number near to 0", x.turn(0, 1, 2), 1);
            x.place(2, 97, 96, 96);
            Dues.due("of a number near to 0", x.turn(0, 1, 2), -1);
        }

        static void eachProductOfATurnCounts() {
            Dues.sentence("TURN of three ELEMENTS, with POINTS p, q, r: 1, if p0 (q1 r2 - q2 r1) - p1 (q0 r2 - q2 r0) "
                    + "+ p2 (q0 r1 - q1 r0) is above 0, -1 below, else 0");
            int[][] orders = {{0, 1, 2, 1}, {0, 2, 1, -1}, {1, 0, 2, -1}, {1, 2, 0, 1}, {2, 0, 1, 1}, {2, 1, 0, -1}};
            for (int[] order : orders) {
                SignTriples x = new SignTriples();
                for (int e = 0; e < 3; e++) {
                    x.place(e, order[e] == 0 ? 1 : 0, order[e] == 1 ? 1 : 0, order[e] == 2 ? 1 : 0);
                }
                Dues.due("turn", x.turn(0, 1, 2), order[3]);
            }
        }

        static void turnOfTheFarthestPoints() {
            Dues.sentence("Each ELEMENT has a POINT: three whole numbers -99 .. 99");
            SignTriples x = Made.told("point 0 99 99 99;point 1 - 99 99 99;point 2 - 99 - 99 99");
            Dues.due("the greatest", x.turn(0, 1, 2), 1);
            Dues.due("the least", x.turn(1, 0, 2), -1);
            x.place(0, -99, -99, -99);
            Dues.due("the least", x.turn(0, 1, 2), -1);
        }

        static void turnsAreOfPointsNotOfSigns() {
            Dues.sentence("TURN of three ELEMENTS in this order (two may be the same).");
            SignTriples x = Made.told("signs 4 oddo");
            for (int a = 0; a < 4; a++) {
                for (int b = 0; b < 4; b++) {
                    for (int c = 0; c < 4; c++) {
                        int want = Integer.signum((b - a) * (c - a) * (c - b));
                        Dues.due("turn " + a + b + c, x.turn(a, b, c), want);
                    }
                }
            }
        }

        // ---- point and place

        static void aPointHasNumbers0To2() {
            Dues.sentence("Number i (0 .. 2) of an ELEMENT's POINT. UNKNOWN; OUTSIDE.");
            SignTriples x = Made.told("point 1 7 8 9");
            Dues.due("number 0", x.point(1, 0), 7);
            Dues.due("number 1", x.point(1, 1), 8);
            Dues.due("number 2", x.point(1, 2), 9);
            int[] others = {-1, 3, 4, Dues.MIN, Dues.MAX};
            for (int i : others) {
                Dues.due("number " + i, x.point(1, i), OUTSIDE);
                Dues.due("number " + i + " of the first", x.point(0, i), OUTSIDE);
                Dues.due("number " + i + " of the last", x.point(2, i), OUTSIDE);
                Dues.due("number " + i + " of none", x.point(3, i), UNKNOWN);
            }
        }

        static void numbersOfAPlaceGoFromMinus99To99() {
            Dues.sentence("An ELEMENT has another POINT (SIGNS stay): 1 it is another one than it was, 0. UNKNOWN; OUTSIDE.");
            int[] within = {-99, -98, 98, 99};
            int[] without = {-101, -100, 100, 101, Dues.MIN, Dues.MAX};
            SignTriples x = new SignTriples();
            for (int number : within) {
                Dues.due("x " + number, x.place(0, number, 1, 1), 1);
                Dues.due("y " + number, x.place(0, 1, number, 1), 1);
                Dues.due("z " + number, x.place(0, 1, 1, number), 1);
                Dues.due("point", Made.pointOf(x, 0), "1 1 " + number);
            }
            for (int number : without) {
                Dues.due("x " + number, x.place(0, number, 0, 0), OUTSIDE);
                Dues.due("y " + number, x.place(0, 0, number, 0), OUTSIDE);
                Dues.due("z " + number, x.place(0, 0, 0, number), OUTSIDE);
            }
            Dues.due("point", Made.pointOf(x, 0), "1 1 99");
            Dues.due("unknown goes ahead", x.place(3, 100, 0, 0), UNKNOWN);
        }

        static void aPlaceIsAnotherOneIfOneNumberIs() {
            Dues.sentence("1 it is another one than it was, 0");
            SignTriples x = new SignTriples();
            Dues.due("the same", x.place(0, 1, 0, 0), 0);
            Dues.due("x", x.place(0, 2, 0, 0), 1);
            Dues.due("y", x.place(0, 2, 3, 0), 1);
            Dues.due("z", x.place(0, 2, 3, 4), 1);
            Dues.due("the same", x.place(0, 2, 3, 4), 0);
            Dues.due("x and y", x.place(0, 3, 2, 4), 1);
            Dues.due("back again", x.place(0, 2, 3, 4), 1);
            Dues.due("opposite", x.place(0, -2, -3, -4), 1);
        }

        static void signsStayWhenPlaced() {
            Dues.sentence("An ELEMENT has another POINT (SIGNS stay)");
            SignTriples x = Made.told("signs 4 udou");
            x.place(0, 0, 0, 0);
            x.place(3, -1, -3, -9);
            Dues.due("signs", Made.signs(x), "udou");
            Dues.due("another's point", Made.pointOf(x, 1), "1 1 1");
        }

        // ---- set

        static void aSignIsFromMinus1To1() {
            Dues.sentence("SIGN of three ELEMENTS in this order becomes v (-1 .. 1): what it was. UNKNOWN; OUTSIDE.");
            SignTriples x = new SignTriples();
            int[] others = {-2, 2, Dues.MIN, Dues.MAX};
            for (int v : others) {
                Dues.due("set " + v, x.set(0, 1, 2, v), OUTSIDE);
                Dues.due("set of none " + v, x.set(0, 1, 3, v), UNKNOWN);
            }
            Dues.due("set -1", x.set(0, 1, 2, -1), 1);
            Dues.due("set 0", x.set(0, 1, 2, 0), -1);
            Dues.due("set 1", x.set(0, 1, 2, 1), 0);
            Dues.due("sign", x.sign(0, 1, 2), 1);
        }

        static void setTwiceTheSameElementIsUnknown() {
            Dues.sentence("UNKNOWN -1001 (no such ELEMENT, TRIPLE, VECTOR, TOPE, BOX; one ELEMENT twice)");
            SignTriples x = Made.allUp(4);
            Dues.due("set 0 0 1", x.set(0, 0, 1, 0), UNKNOWN);
            Dues.due("set 0 1 0", x.set(0, 1, 0, 0), UNKNOWN);
            Dues.due("set 1 0 0", x.set(1, 0, 0, 0), UNKNOWN);
            Dues.due("set 3 3 3", x.set(3, 3, 3, 0), UNKNOWN);
            Dues.due("set 0 0 1 9", x.set(0, 0, 1, 9), UNKNOWN);
            Dues.due("can be undone", x.count(6), 0);
        }

        static void setInEachOrder() {
            Dues.sentence("SIGN of three ELEMENTS in this order becomes v (-1 .. 1): what it was.");
            int[][] orders = {{1, 2, 3, 1}, {2, 3, 1, 1}, {3, 1, 2, 1}, {1, 3, 2, -1}, {2, 1, 3, -1}, {3, 2, 1, -1}};
            for (int[] o : orders) {
                SignTriples x = Made.allUp(4);
                Dues.due("set the same", x.set(o[0], o[1], o[2], o[3]), o[3]);
                Dues.due("signs", Made.signs(x), "uuuu");
                Dues.due("set another", x.set(o[0], o[1], o[2], -o[3]), o[3]);
                Dues.due("signs", Made.signs(x), "uuud");
                Dues.due("set nothing", x.set(o[0], o[1], o[2], 0), -o[3]);
                Dues.due("signs", Made.signs(x), "uuuo");
                Dues.due("in all orders", x.sign(o[1], o[0], o[2]), 0);
            }
        }

        // ---- flip

        static void flipTellsHowManySignsBecameOthers() {
            Dues.sentence("SIGNS of all TRIPLES with an ELEMENT, its POINT's numbers, times -1: how many SIGNS became others.");
            int[] most = {1, 3, 6, 10};
            for (int n = 3; n <= 6; n++) {
                SignTriples x = Made.allUp(n);
                Dues.due("flip of the first", x.flip(0), most[n - 3]);
                Dues.due("flip of the last", x.flip(n - 1), most[n - 3]);
                SignTriples y = Made.allNothing(n);
                Dues.due("flip of nothing", y.flip(0), 0);
                Dues.due("signs", Made.signs(y), "o".repeat(Made.triples(n)));
            }
            SignTriples z = Made.told("signs 4 uodu");
            Dues.due("flip of some", z.flip(0), 2);
            Dues.due("signs", Made.signs(z), "douu");
            Dues.due("in all orders", z.sign(2, 1, 0), 1);
        }

        static void flipOfThePointsNumbers() {
            Dues.sentence("its POINT's numbers, times -1");
            SignTriples x = Made.told("point 1 99 - 99 0");
            x.flip(1);
            Dues.due("points", Made.points(x), "1 0 0;-99 99 0;1 2 4;");
            Dues.due("the same place yet", x.place(1, -99, 99, 0), 0);
        }

        static void flipTwiceIsNone() {
            Dues.sentence("SIGNS of all TRIPLES with an ELEMENT, its POINT's numbers, times -1");
            SignTriples x = Made.told("signs 6 uoduuddoouuodduouddo");
            String was = Made.arrangement(x);
            for (int e = 0; e < 6; e++) {
                x.flip(e);
                x.flip(e);
                Dues.due("flipped twice", Made.arrangement(x), was);
            }
        }

        // ---- swap

        static void swapHasTwoElements() {
            Dues.sentence("one ELEMENT twice");
            SignTriples x = Made.allUp(6);
            for (int e = 0; e < 6; e++) {
                Dues.due("swap", x.swap(e, e), UNKNOWN);
            }
            Dues.due("can be undone", x.count(6), 0);
        }

        static void swapTellsHowManyTriplesHaveAnotherSign() {
            Dues.sentence("Two ELEMENTS change their numbers (POINTS, too): how many TRIPLES have another SIGN than they had.");
            Dues.due("of three", new SignTriples().swap(0, 2), 1);
            Dues.due("of nothing", Made.allNothing(6).swap(0, 5), 0);
            // The four triples with both are turned, and those with one of them whose one other stands between them alone.
            Dues.due("neighbours of six", Made.allUp(6).swap(2, 3), 4);
            Dues.due("the first and the last of six", Made.allUp(6).swap(0, 5), 4);
            Dues.due("the last and the first of six", Made.allUp(6).swap(5, 0), 4);
            Dues.due("0 and 2 of six", Made.allUp(6).swap(0, 2), 10);
            Dues.due("3 and 0 of six", Made.allUp(6).swap(3, 0), 12);
            SignTriples x = Made.told("signs 4 udou");
            Dues.due("0 and 3", x.swap(0, 3), 1);
            Dues.due("signs", Made.signs(x), "uuou");
            Dues.due("in all orders", x.sign(3, 1, 0), -1);
        }

        static void swapOfPoints() {
            Dues.sentence("Two ELEMENTS change their numbers (POINTS, too)");
            SignTriples x = Made.told("signs 6 oooooooooooooooooooo;point 0 1 - 2 3");
            x.swap(5, 0);
            Dues.due("points", Made.points(x), "1 5 25;1 1 1;1 2 4;1 3 9;1 4 16;1 -2 3;");
        }

        static void swapTwiceIsNone() {
            Dues.sentence("Two ELEMENTS change their numbers (POINTS, too)");
            SignTriples x = Made.told("signs 6 uoduuddoouuodduouddo");
            String was = Made.signs(x);
            for (int e = 0; e < 6; e++) {
                for (int f = 0; f < 6; f++) {
                    if (e < f) {
                        x.swap(e, f);
                        x.swap(f, e);
                    }
                }
                Dues.due("swapped twice", Made.signs(x), was);
            }
        }

        // ---- add, drop

        static void aSeventhElementIsTooMany() {
            Dues.sentence("OUTSIDE; FULL: 6.");
            SignTriples x = Made.allUp(5);
            Dues.due("the sixth", x.add(0, 0, 0), 6);
            Dues.due("a seventh", x.add(0, 0, 0), FULL);
            Dues.due("outside goes ahead", x.add(100, 0, 0), OUTSIDE);
            Dues.due("outside goes ahead", x.add(0, -100, 0), OUTSIDE);
            Dues.due("outside goes ahead", x.add(0, 0, 100), OUTSIDE);
            Dues.due("elements", x.count(0), 6);
            Dues.due("can be undone", x.count(6), 1);
        }

        static void numbersOfAnAddedPointGoFromMinus99To99() {
            Dues.sentence("An ELEMENT more, with a POINT; SIGNS of TRIPLES with it are their TURNS: how many ELEMENTS there are. OUTSIDE;");
            int[] without = {-100, 100, Dues.MIN, Dues.MAX};
            SignTriples x = new SignTriples();
            for (int number : without) {
                Dues.due("x " + number, x.add(number, 0, 0), OUTSIDE);
                Dues.due("y " + number, x.add(0, number, 0), OUTSIDE);
                Dues.due("z " + number, x.add(0, 0, number), OUTSIDE);
            }
            Dues.due("elements", x.count(0), 3);
            Dues.due("x, y, z", x.add(-99, 99, -99), 4);
            Dues.due("x, y, z", x.add(99, -99, 99), 5);
            Dues.due("points", Made.points(x), "1 0 0;1 1 1;1 2 4;-99 99 -99;99 -99 99;");
        }

        static void signsOfAnAddedElementAreTurns() {
            Dues.sentence("SIGNS of TRIPLES with it are their TURNS");
            SignTriples x = Made.told("signs 3 d");
            x.add(0, 0, 0);
            Dues.due("a point of nothing", Made.signs(x), "dooo");
            x.add(1, 1, 1);
            Dues.due("a point as another's", x.sign(0, 1, 4), 0);
            Dues.due("a point as another's", x.sign(0, 2, 4), -1);
            Dues.due("a point as another's", x.sign(1, 2, 4), 0);
            Dues.due("the others stay", x.sign(0, 1, 2), -1);
            x.add(1, 5, 25);
            Dues.due("in all orders", x.sign(5, 1, 0), -1);
            Dues.due("in all orders", x.sign(5, 0, 1), 1);
        }

        static void oldSignsOfAnElementThatWentAreGone() {
            Dues.sentence("SIGNS of TRIPLES with it are their TURNS");
            SignTriples x = Made.allUp(6);
            x.drop(5);
            x.add(0, 0, 0);
            Dues.due("bases", x.count(2), 10);
            x.undo();
            x.undo();
            Dues.due("bases", x.count(2), 20);
        }

        static void thereAre3LeftAtLeast() {
            Dues.sentence("UNKNOWN; NOT: there are 3.");
            SignTriples x = Made.allUp(4);
            Dues.due("drop of four", x.drop(3), 3);
            Dues.due("drop of three", x.drop(0), NOT);
            Dues.due("drop of three", x.drop(2), NOT);
            Dues.due("unknown goes ahead", x.drop(3), UNKNOWN);
            Dues.due("unknown goes ahead", x.drop(-1), UNKNOWN);
            Dues.due("elements", x.count(0), 3);
            Dues.due("can be undone", x.count(6), 1);
        }

        static void laterElementsHaveANumberLess() {
            Dues.sentence("An ELEMENT goes; later ones have a number less; SIGNS, POINTS of the others stay: how many are left.");
            String[] points = {"1 1 1;1 2 4;1 3 9;", "1 0 0;1 2 4;1 3 9;", "1 0 0;1 1 1;1 3 9;", "1 0 0;1 1 1;1 2 4;"};
            String[] left = {"u", "o", "d", "u"};
            for (int e = 0; e < 4; e++) {
                SignTriples x = Made.told("signs 4 udou");
                Dues.due("drop", x.drop(e), 3);
                Dues.due("points", Made.points(x), points[e]);
                Dues.due("signs", Made.signs(x), left[e]);
            }
        }

        static void dropOfTheFirstAndTheLastOfSix() {
            Dues.sentence("later ones have a number less; SIGNS, POINTS of the others stay");
            String word = "uoduuddoouuodduouddo";
            SignTriples first = Made.told("signs 6 " + word);
            Dues.due("drop", first.drop(0), 5);
            Dues.due("signs", Made.signs(first), word.substring(10));
            Dues.due("points", Made.points(first), "1 1 1;1 2 4;1 3 9;1 4 16;1 5 25;");
            SignTriples last = Made.told("signs 6 " + word);
            Dues.due("drop", last.drop(5), 5);
            Dues.due("signs", Made.signs(last), "uodudouodu");
            Dues.due("points", Made.points(last), "1 0 0;1 1 1;1 2 4;1 3 9;1 4 16;");
        }

        // ---- draw

        static void drawTellsHowManySignsBecameOthers() {
            Dues.sentence("SIGNS of all TRIPLES become their TURNS: how many SIGNS became others.");
            for (int n = 3; n <= 6; n++) {
                int triples = Made.triples(n);
                Dues.due("none", Made.allUp(n).draw(), 0);
                Dues.due("all", Made.allNothing(n).draw(), triples);
                Dues.due("all", Made.told("signs " + n + " " + "d".repeat(triples)).draw(), triples);
                SignTriples one = Made.allUp(n);
                one.set(n - 3, n - 2, n - 1, -1);
                Dues.due("the last one", one.draw(), 1);
                Dues.due("signs", Made.signs(one), "u".repeat(triples));
            }
        }

        static void drawMakesNothingOfThreeOnOneLine() {
            Dues.sentence("SIGNS of all TRIPLES become their TURNS");
            SignTriples x = Made.told("signs 4 uuuu;point 1 2 0 0");
            Dues.due("draw", x.draw(), 2);
            Dues.due("signs", Made.signs(x), "oouu");
            Dues.due("draw again", x.draw(), 0);
        }

        // ---- undo

        static void theLast8CanBeUndone() {
            Dues.sentence("(the last 8 can be)");
            SignTriples x = new SignTriples();
            for (int i = 1; i <= 30; i++) {
                x.place(0, i, 0, 0);
                Dues.due("can be undone", x.count(6), Math.min(i, 8));
            }
            for (int i = 7; i >= 0; i--) {
                Dues.due("undo", x.undo(), i);
                Dues.due("point", x.point(0, 0), 22 + i);
            }
            Dues.due("a ninth", x.undo(), NOT);
            Dues.due("point", x.point(0, 0), 22);
        }

        static void justEightAreUndone() {
            Dues.sentence("(the last 8 can be)");
            SignTriples x = new SignTriples();
            for (int i = 0; i < 8; i++) {
                x.flip(0);
            }
            for (int i = 7; i >= 0; i--) {
                Dues.due("undo", x.undo(), i);
            }
            Dues.due("undo", x.undo(), NOT);
            Dues.due("arrangement", Made.arrangement(x), "u 1 0 0;1 1 1;1 2 4;");
        }

        static void someUndoneAndOthersDone() {
            Dues.sentence("(the last 8 can be)");
            SignTriples x = new SignTriples();
            for (int i = 1; i <= 10; i++) {
                x.place(0, i, 0, 0);
            }
            for (int i = 0; i < 5; i++) {
                x.undo();
            }
            Dues.due("point", x.point(0, 0), 5);
            for (int i = 11; i <= 17; i++) {
                x.place(0, i, 0, 0);
            }
            Dues.due("can be undone", x.count(6), 8);
            for (int i = 7; i >= 1; i--) {
                Dues.due("undo", x.undo(), i);
                Dues.due("point", x.point(0, 0), i == 1 ? 5 : 9 + i);
            }
            Dues.due("undo", x.undo(), 0);
            Dues.due("point", x.point(0, 0), 4);
            Dues.due("undo", x.undo(), NOT);
        }

        static void undoOfNone() {
            Dues.sentence("NOT: none.");
            SignTriples x = new SignTriples();
            Dues.due("undo", x.undo(), NOT);
            x.flip(0);
            x.undo();
            Dues.due("undo is not undone", x.undo(), NOT);
            Dues.due("sign", x.sign(0, 1, 2), 1);
        }

        static void eachOfTheSevenDeedsIsUndone() {
            Dues.sentence("The latest set(), place(), flip(), swap(), add(), drop(), draw() is undone");
            SignTriples x = Made.told("signs 4 udou");
            String was = Made.arrangement(x);
            x.set(0, 1, 2, 0);
            Dues.due("undo set", x.undo() + Made.arrangement(x), "0" + was);
            x.place(0, 5, 5, 5);
            Dues.due("undo place", x.undo() + Made.arrangement(x), "0" + was);
            x.flip(1);
            Dues.due("undo flip", x.undo() + Made.arrangement(x), "0" + was);
            x.swap(1, 2);
            Dues.due("undo swap", x.undo() + Made.arrangement(x), "0" + was);
            x.add(0, 0, 1);
            Dues.due("undo add", x.undo() + Made.arrangement(x), "0" + was);
            x.drop(1);
            Dues.due("undo drop", x.undo() + Made.arrangement(x), "0" + was);
            x.draw();
            Dues.due("undo draw", x.undo() + Made.arrangement(x), "0" + was);
        }

        static void oneByWhichNothingBecameOtherIsUndoneAlso() {
            Dues.sentence("also one by which nothing became other");
            for (int which = 0; which < 5; which++) {
                SignTriples x = Made.told("signs 3 o;point 0 0 0 0;point 1 0 0 0;point 2 0 0 0");
                idleDeed(x, which);
                Dues.due("nothing became other", Made.arrangement(x), "o 0 0 0;0 0 0;0 0 0;");
                Dues.due("can be undone", x.count(6), 1);
                Dues.due("undo", x.undo(), 0);
            }
        }

        static void idleDeedsPushOthersOut() {
            Dues.sentence("also one by which nothing became other (the last 8 can be)");
            SignTriples x = new SignTriples();
            x.flip(0);
            for (int i = 0; i < 8; i++) {
                x.draw();
                x.undo();
                x.set(0, 1, 2, -1);
            }
            for (int i = 7; i >= 0; i--) {
                Dues.due("undo", x.undo(), i);
            }
            Dues.due("undo", x.undo(), NOT);
            Dues.due("the flip stays", x.sign(0, 1, 2), -1);
        }

        static void otherCallsAreNotUndone() {
            Dues.sentence("The latest set(), place(), flip(), swap(), add(), drop(), draw() is undone");
            SignTriples x = new SignTriples();
            x.flip(0);
            x.write('a');
            x.fault();
            x.tell();
            x.erase();
            x.keep(0);
            x.box(0, 0, 1);
            x.lay(0, 0, 0, 0);
            x.compose(0, 0, 0);
            x.away(0);
            x.is(1);
            x.vector(3, 0, 0);
            x.extensions();
            x.mutation(-1);
            Dues.due("can be undone", x.count(6), 1);
            Dues.due("undo", x.undo(), 0);
            Dues.due("sign", x.sign(0, 1, 2), 1);
        }

        static void refusedDeedsAreNotUndone() {
            Dues.sentence("Refused, and nothing changes");
            SignTriples x = new SignTriples();
            x.set(0, 1, 2, 2);
            x.set(0, 1, 1, 0);
            x.place(0, 100, 0, 0);
            x.flip(3);
            x.swap(0, 0);
            x.add(100, 0, 0);
            x.drop(0);
            x.back(0);
            Dues.due("can be undone", x.count(6), 0);
        }

        // ---- keep, back

        static void keptAre0And1() {
            Dues.sentence("ELEMENTS, SIGNS, POINTS are kept (k 0, 1): how many ELEMENTS. OUTSIDE.");
            int[] others = {-1, 2, 3, Dues.MIN, Dues.MAX};
            SignTriples x = new SignTriples();
            Dues.due("keep 0", x.keep(0), 3);
            x.add(0, 0, 1);
            Dues.due("keep 1", x.keep(1), 4);
            for (int k : others) {
                Dues.due("keep " + k, x.keep(k), OUTSIDE);
                Dues.due("back " + k, x.back(k), OUTSIDE);
            }
            Dues.due("can be undone", x.count(6), 1);
            Dues.due("back 0", x.back(0), 3);
            Dues.due("back 1", x.back(1), 4);
        }

        static void outsideGoesAheadOfNothingKept() {
            Dues.sentence("OUTSIDE; NOT: nothing was kept since the last text.");
            SignTriples x = new SignTriples();
            Dues.due("back 2", x.back(2), OUTSIDE);
            Dues.due("back -1", x.back(-1), OUTSIDE);
            Dues.due("back 0", x.back(0), NOT);
            Dues.due("back 1", x.back(1), NOT);
        }

        static void whereNothingWasKeptIsNothingToGoBackTo() {
            Dues.sentence("NOT: nothing was kept since the last text.");
            for (int k = 0; k < 2; k++) {
                SignTriples x = new SignTriples();
                x.flip(0);
                x.keep(k);
                Dues.due("back to the other", x.back(1 - k), NOT);
                Dues.due("can be undone yet", x.count(6), 1);
                Dues.due("back", x.back(k), 3);
                Dues.due("can be undone no more", x.count(6), 0);
            }
        }

        static void keptBehindTheLastText() {
            Dues.sentence("NOT: nothing was kept since the last text.");
            SignTriples x = new SignTriples();
            x.keep(0);
            x.keep(1);
            Made.write(x, "draw");
            x.tell();
            Dues.due("back 0", x.back(0), NOT);
            x.keep(0);
            Dues.due("back 0", x.back(0), 3);
            Dues.due("back 1", x.back(1), NOT);
        }

        static void aTextWithAFaultForgetsNothing() {
            Dues.sentence("NOT: nothing was kept since the last text.");
            SignTriples x = new SignTriples();
            x.keep(0);
            Made.write(x, "draw;");
            x.tell();
            x.fault();
            x.erase();
            Dues.due("back", x.back(0), 3);
        }

        static void backIsAsItWasKept() {
            Dues.sentence("They are as they were kept, nothing can be undone: how many ELEMENTS.");
            SignTriples x = Made.told("signs 6 uoduuddoouuodduouddo;point 5 - 9 9 9");
            String was = Made.arrangement(x);
            Dues.due("keep", x.keep(0), 6);
            x.drop(0);
            x.drop(0);
            x.drop(0);
            x.set(0, 1, 2, 0);
            x.place(0, 0, 0, 0);
            Dues.due("back", x.back(0), 6);
            Dues.due("arrangement", Made.arrangement(x), was);
            Dues.due("undo", x.undo(), NOT);
            x.flip(5);
            Dues.due("back again", x.back(0), 6);
            Dues.due("arrangement", Made.arrangement(x), was);
        }

        static void whatIsKeptIsNotChangedByUndo() {
            Dues.sentence("ELEMENTS, SIGNS, POINTS are kept (k 0, 1)");
            SignTriples x = new SignTriples();
            x.flip(0);
            x.keep(0);
            x.undo();
            x.keep(1);
            Dues.due("back 0", x.back(0), 3);
            Dues.due("sign", x.sign(0, 1, 2), -1);
            Dues.due("back 1", x.back(1), 3);
            Dues.due("sign", x.sign(0, 1, 2), 1);
        }

        static void whatIsKeptIsNotChangedByAnythingElse() {
            Dues.sentence("They are as they were kept, nothing can be undone: how many ELEMENTS.");
            SignTriples x = Made.told("signs 4 udou");
            x.keep(0);
            x.place(0, 9, 9, 9);
            x.keep(1);
            x.set(0, 1, 2, 0);
            x.flip(1);
            x.swap(0, 3);
            x.add(1, 1, 1);
            x.drop(2);
            x.draw();
            x.undo();
            x.write('a');
            x.tell();
            x.erase();
            x.box(0, 0, 1);
            x.lay(0, 0, 0, 0);
            x.mutation(-1);
            x.extensions();
            Dues.due("back 1", x.back(1), 4);
            Dues.due("arrangement", Made.arrangement(x), "udou 9 9 9;1 1 1;1 2 4;1 3 9;");
            Dues.due("back 0", x.back(0), 4);
            Dues.due("arrangement", Made.arrangement(x), "udou 1 0 0;1 1 1;1 2 4;1 3 9;");
            Dues.due("back 1 again", x.back(1), 4);
            Dues.due("point", Made.pointOf(x, 0), "9 9 9");
        }

        static void keptAnewIsTheLatest() {
            Dues.sentence("ELEMENTS, SIGNS, POINTS are kept (k 0, 1)");
            SignTriples x = new SignTriples();
            x.keep(0);
            x.add(0, 0, 1);
            Dues.due("keep anew", x.keep(0), 4);
            x.drop(0);
            Dues.due("back", x.back(0), 4);
        }

        static void boxesAndTextAreNotKept() {
            Dues.sentence("ELEMENTS, SIGNS, POINTS are kept (k 0, 1)");
            SignTriples x = new SignTriples();
            x.box(0, 0, 1);
            x.write('a');
            x.keep(0);
            x.lay(0, 0, 0, 0);
            x.write('b');
            x.back(0);
            Dues.due("vectors", x.count(8), 1);
            Dues.due("letters", x.count(7), 2);
        }

        static void setAllInEachArrangement() {
            Dues.sentence("Each TRIPLE has a SIGN -1, 0, 1");
            for (int n = 3; n <= 6; n++) {
                SignTriples x = Made.allUp(n);
                setAll(x, -1);
                Dues.due("all -1", Made.signs(x), "d".repeat(Made.triples(n)));
                setAll(x, 0);
                Dues.due("all 0", Made.signs(x), "o".repeat(Made.triples(n)));
                Dues.due("bases", x.count(2), 0);
                setAll(x, 1);
                Dues.due("all 1", Made.signs(x), "u".repeat(Made.triples(n)));
            }
        }
    }
}
