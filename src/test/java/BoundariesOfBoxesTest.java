/**
 * Each sentence on BOXES that names a boundary case, from "Terms" and promises 26 to 32, by a test of its own;
 * and those on the counts that have no other test.
 */
public final class BoundariesOfBoxesTest {
    private static final int UNKNOWN = SignTriples.UNKNOWN;
    private static final int OUTSIDE = SignTriples.OUTSIDE;
    private static final int NOT = SignTriples.NOT;
    private static final int NULL = SignTriples.NULL;
    private static final int SIZE = SignTriples.SIZE;
    private static final int INDEX = SignTriples.INDEX;
    private static final int STORE = SignTriples.STORE;
    private static final int EMPTY = SignTriples.EMPTY;
    private static final int OTHER = SignTriples.OTHER;
    private static final int[] NO_BOXES = {-1, 3, 4, Dues.MIN, Dues.MAX};

    public static void main(String[] args) {
        Dues.runAll(Tests.class);
    }

    /** Three elements whose covectors are all of -1, 0, 1, so that the k-th has k's digits to the base of three. */
    private static SignTriples withBox(int sort, int places) {
        SignTriples x = new SignTriples();
        x.box(0, sort, places);
        return x;
    }

    /** Lays that covector of three elements. */
    private static int layVector(SignTriples x, int place, String vector) {
        int k = 0;
        for (int e = 0; e < 3; e++) {
            k = 3 * k + "+0-".indexOf(vector.charAt(e));
        }
        return x.lay(0, place, 2, k);
    }

    private static SignTriples notOrderly(SignTriples x) {
        x.set(0, 1, 2, 0);
        return x;
    }

    static final class Tests {
        // ---- box

        static void boxesAre0To2() {
            Dues.sentence("BOXES 0 .. 2 are missing (at first)");
            SignTriples x = new SignTriples();
            for (int box = 0; box <= 2; box++) {
                Dues.due("seen", x.seen(box, 0, 0), NULL);
                Dues.due("lay", x.lay(box, 0, 0, 0), NULL);
                Dues.due("compose", x.compose(box, 0, 0), NULL);
                Dues.due("find", x.find(box, 0, 0), NULL);
                Dues.due("away", x.away(box), NULL);
                Dues.due("box", x.box(box, 0, 1), 1);
                Dues.due("seen", x.seen(box, 0, 0), EMPTY);
            }
            for (int box : NO_BOXES) {
                Dues.due("box " + box, x.box(box, 0, 1), UNKNOWN);
                Dues.due("lay " + box, x.lay(box, 0, 0, 0), UNKNOWN);
                Dues.due("compose " + box, x.compose(box, 0, 0), UNKNOWN);
                Dues.due("seen " + box, x.seen(box, 0, 0), UNKNOWN);
                Dues.due("find " + box, x.find(box, 0, 0), UNKNOWN);
                Dues.due("away " + box, x.away(box), UNKNOWN);
            }
        }

        static void boxesHave0To6Places() {
            Dues.sentence("or have 0 to 6 places");
            SignTriples x = new SignTriples();
            for (int n = 0; n <= 6; n++) {
                Dues.due("box of " + n, x.box(1, 0, n), n);
                for (int i = 0; i < n; i++) {
                    Dues.due("place " + i, x.lay(1, i, 0, 0), 2);
                }
                Dues.due("place " + n, x.lay(1, n, 0, 0), INDEX);
                Dues.due("vectors", x.count(8), n);
            }
        }

        static void aBoxOfMoreThan6PlacesIsOutside() {
            Dues.sentence("UNKNOWN; OUTSIDE (sort; n above 6); SIZE.");
            SignTriples x = withBox(0, 2);
            Dues.due("n 7", x.box(0, 0, 7), OUTSIDE);
            Dues.due("n MAX", x.box(0, 1, Dues.MAX), OUTSIDE);
            Dues.due("box", Made.box(x, 0), ". .");
            Dues.due("n 7 of a missing one", x.box(1, 0, 7), OUTSIDE);
            Dues.due("it is missing yet", x.away(1), NULL);
        }

        static void aBoxOfFewerPlacesThanNone() {
            Dues.sentence("SIZE -1012 (fewer places than none)");
            SignTriples x = withBox(0, 2);
            Dues.due("n -1", x.box(0, 0, -1), SIZE);
            Dues.due("n -2", x.box(0, 1, -2), SIZE);
            Dues.due("n MIN", x.box(0, 1, Dues.MIN), SIZE);
            Dues.due("box", Made.box(x, 0), ". .");
            Dues.due("n 0", x.box(0, 1, 0), 0);
            Dues.due("box", Made.box(x, 0), "");
        }

        static void sortsAre0And1() {
            Dues.sentence("UNKNOWN; OUTSIDE (sort; n above 6); SIZE.");
            SignTriples x = new SignTriples();
            int[] others = {-1, 2, Dues.MIN, Dues.MAX};
            for (int sort : others) {
                Dues.due("sort " + sort, x.box(0, sort, 1), OUTSIDE);
                Dues.due("sort and n", x.box(0, sort, -1), OUTSIDE);
                Dues.due("box and sort and n", x.box(3, sort, -1), UNKNOWN);
            }
            Dues.due("box and n", x.box(-1, 0, -1), UNKNOWN);
            Dues.due("box and n", x.box(3, 0, 7), UNKNOWN);
            Dues.due("missing yet", x.seen(0, 0, 0), NULL);
        }

        static void placesOfANewBoxAreEmpty() {
            Dues.sentence("a place is empty (at first), or has a VECTOR");
            SignTriples x = withBox(0, 6);
            for (int i = 0; i < 6; i++) {
                Dues.due("seen", x.seen(0, i, 0), EMPTY);
                Dues.due("compose", x.compose(0, i, i), EMPTY);
                Dues.due("find", x.find(0, i, 0), EMPTY);
                x.lay(0, i, 0, 0);
            }
            Dues.due("a new one of as many", x.box(0, 0, 6), 6);
            Dues.due("is empty", Made.box(x, 0), ". . . . . .");
            x.lay(0, 5, 0, 0);
            x.box(0, 0, 2);
            x.box(0, 0, 6);
            Dues.due("is empty", Made.box(x, 0), ". . . . . .");
            Dues.due("vectors", x.count(8), 0);
        }

        static void aBoxThatWasAwayIsEmptyAnew() {
            Dues.sentence("A BOX is a new one of n places, made for a sort: n.");
            SignTriples x = withBox(1, 3);
            x.lay(0, 2, 3, 0);
            x.away(0);
            x.box(0, 0, 3);
            Dues.due("box", Made.box(x, 0), ". . .");
            Dues.due("of another sort", x.lay(0, 2, 0, 0), 2);
            x.box(0, 1, 3);
            Dues.due("of the first sort", x.lay(0, 2, 0, 0), STORE);
        }

        // ---- lay

        static void layTellsHowManyZeros() {
            Dues.sentence("Place i of a BOX has the k-th VECTOR of a kind: how many zeros that has.");
            SignTriples x = withBox(0, 1);
            Dues.due("none", layVector(x, 0, "+++"), 0);
            Dues.due("one", layVector(x, 0, "-0+"), 1);
            Dues.due("two", layVector(x, 0, "0-0"), 2);
            Dues.due("all", layVector(x, 0, "000"), 3);
            Dues.due("it", Made.box(x, 0), "000");
            SignTriples six = Made.allUp(6);
            six.box(0, 0, 1);
            Dues.due("all of six", six.lay(0, 0, 2, 61), 6);
            Dues.due("it", Made.box(six, 0), "000000");
        }

        static void layTheFirstAndTheLastOfEachKind() {
            Dues.sentence("Place i of a BOX has the k-th VECTOR of a kind");
            SignTriples x = Made.allUp(4);
            x.box(0, 0, 2);
            for (int kind = 0; kind <= 3; kind++) {
                int many = x.vector(kind, -1, 0);
                x.lay(0, 0, kind, 0);
                x.lay(0, 1, kind, many - 1);
                Dues.due("the first", Made.seen(x, 0, 0), Made.vector(x, kind, 0));
                Dues.due("the last", Made.seen(x, 0, 1), Made.vector(x, kind, many - 1));
                Dues.due("one more", x.lay(0, 0, kind, many), UNKNOWN);
                Dues.due("k -1", x.lay(0, 0, kind, -1), UNKNOWN);
                Dues.due("k MIN", x.lay(0, 0, kind, Dues.MIN), UNKNOWN);
                Dues.due("k MAX", x.lay(0, 0, kind, Dues.MAX), UNKNOWN);
                Dues.due("nothing changes", Made.seen(x, 0, 0), Made.vector(x, kind, 0));
            }
        }

        static void layOfNoVectorsAtAll() {
            Dues.sentence("UNKNOWN (VECTOR; BOX)");
            SignTriples x = withBox(0, 1);
            Dues.due("a circuit of three", x.lay(0, 0, 1, 0), UNKNOWN);
            notOrderly(x);
            Dues.due("a cocircuit of no base", x.lay(0, 0, 0, 0), UNKNOWN);
            Dues.due("box", Made.box(x, 0), ".");
        }

        static void aBoxForFullOnesTakesNoZero() {
            Dues.sentence("for those without a 0 alone (1)");
            SignTriples x = withBox(1, 1);
            Dues.due("one zero", layVector(x, 0, "++0"), STORE);
            Dues.due("one zero", layVector(x, 0, "0-+"), STORE);
            Dues.due("two zeros", layVector(x, 0, "0+0"), STORE);
            Dues.due("all", layVector(x, 0, "000"), STORE);
            Dues.due("box", Made.box(x, 0), ".");
            Dues.due("full", layVector(x, 0, "-+-"), 0);
            Dues.due("one zero", layVector(x, 0, "++0"), STORE);
            Dues.due("it changes nothing", Made.box(x, 0), "-+-");
        }

        static void aTopeWithALoopIsNotFull() {
            Dues.sentence("STORE -1014 (the BOX is not made for it)");
            SignTriples x = Made.told("signs 4 uooo");
            x.box(0, 1, 1);
            for (int k = 0; k < 8; k++) {
                Dues.due("tope", x.lay(0, 0, 3, k), STORE);
            }
            x.box(0, 0, 1);
            Dues.due("for any", x.lay(0, 0, 3, 0), 1);
        }

        static void layAtNoPlace() {
            Dues.sentence("INDEX -1013 (there is no such place)");
            int[] places = {-1, 2, 5, 6, Dues.MIN, Dues.MAX};
            SignTriples x = withBox(1, 2);
            for (int i : places) {
                Dues.due("lay " + i, x.lay(0, i, 3, 0), INDEX);
                Dues.due("ahead of STORE", x.lay(0, i, 0, 0), INDEX);
                Dues.due("compose " + i, x.compose(0, i, i), INDEX);
                Dues.due("seen " + i, x.seen(0, i, 0), INDEX);
                Dues.due("find " + i, x.find(0, i, 0), INDEX);
            }
            x.box(1, 0, 0);
            Dues.due("lay without a place", x.lay(1, 0, 0, 0), INDEX);
            Dues.due("compose without a place", x.compose(1, 0, 0), INDEX);
            Dues.due("seen without a place", x.seen(1, 0, 0), INDEX);
            Dues.due("find without a place", x.find(1, 0, 0), INDEX);
            Dues.due("vectors", x.count(8), 0);
        }

        static void layIsRefusedInItsOrder() {
            Dues.sentence("OUTSIDE: kind; NOT: kinds 2, 3, not ORDERLY; UNKNOWN (VECTOR; BOX); NULL; INDEX; STORE.");
            SignTriples x = withBox(1, 1);
            int[] kinds = {-1, 4, Dues.MIN, Dues.MAX};
            for (int kind : kinds) {
                Dues.due("kind " + kind, x.lay(9, 9, kind, 99), OUTSIDE);
            }
            Dues.due("no vector, no box", x.lay(3, 9, 0, 99), UNKNOWN);
            Dues.due("no vector, box missing", x.lay(1, 9, 0, 99), UNKNOWN);
            Dues.due("no box", x.lay(3, 9, 0, 0), UNKNOWN);
            Dues.due("box missing, no place", x.lay(1, 9, 0, 0), NULL);
            Dues.due("no place, not made for it", x.lay(0, 1, 0, 0), INDEX);
            Dues.due("not made for it", x.lay(0, 0, 0, 0), STORE);
            notOrderly(x);
            Dues.due("kind, not orderly", x.lay(9, 9, 4, 99), OUTSIDE);
            Dues.due("not orderly, no vector", x.lay(0, 0, 2, 99), NOT);
            Dues.due("not orderly, no box", x.lay(3, 0, 3, 0), NOT);
            Dues.due("not orderly, box missing", x.lay(1, 0, 3, -1), NOT);
        }

        static void laidOnOneAnother() {
            Dues.sentence("a place is empty (at first), or has a VECTOR, as it was when it came");
            SignTriples x = withBox(0, 3);
            layVector(x, 1, "+0-");
            layVector(x, 1, "-0+");
            Dues.due("the latest", Made.box(x, 0), ". -0+ .");
            Dues.due("vectors", x.count(8), 1);
        }

        static void aVectorIsAsItWasWhenItCame() {
            Dues.sentence("or has a VECTOR, as it was when it came");
            SignTriples x = Made.allUp(4);
            x.box(0, 0, 3);
            x.lay(0, 0, 3, 1);
            x.lay(0, 2, 0, 0);
            String was = "+++- . ++00";
            Dues.due("box", Made.box(x, 0), was);
            x.flip(0);
            x.swap(0, 3);
            Dues.due("other signs", Made.box(x, 0), was);
            x.drop(0);
            Dues.due("fewer elements", Made.box(x, 0), was);
            x.add(0, 0, 0);
            x.add(0, 0, 0);
            x.add(0, 0, 0);
            Dues.due("more elements", Made.box(x, 0), was);
            x.undo();
            x.keep(0);
            x.back(0);
            Made.write(x, "signs 6 oooooooooooooooooooo");
            x.tell();
            Dues.due("a text", Made.box(x, 0), was);
        }

        // ---- compose

        static void composedWhereXHasZeros() {
            Dues.sentence("COMPOSED of X and Y: to each ELEMENT X's number, if that is 0 Y's");
            String numbers = "+0-";
            for (int first = 0; first < 3; first++) {
                for (int second = 0; second < 3; second++) {
                    SignTriples x = withBox(0, 2);
                    char of = numbers.charAt(first);
                    char and = numbers.charAt(second);
                    char both = of == '0' ? and : of;
                    layVector(x, 0, "" + of + "0" + of);
                    layVector(x, 1, "" + and + and + "0");
                    String want = "" + both + and + of;
                    Dues.due("zeros", x.compose(0, 0, 1), want.length() - want.replace("0", "").length());
                    Dues.due("composed", Made.seen(x, 0, 0), want);
                    Dues.due("the other stays", Made.seen(x, 0, 1), "" + and + and + "0");
                }
            }
        }

        static void composedWithItself() {
            Dues.sentence("Place i of a BOX has what is COMPOSED of its VECTOR and that at place j: how many zeros that has.");
            SignTriples x = withBox(0, 6);
            layVector(x, 5, "+0-");
            Dues.due("zeros", x.compose(0, 5, 5), 1);
            Dues.due("it stays", Made.seen(x, 0, 5), "+0-");
            layVector(x, 0, "000");
            Dues.due("zeros of zeros", x.compose(0, 0, 0), 3);
            Dues.due("zeros with another", x.compose(0, 0, 5), 1);
            Dues.due("box", Made.box(x, 0), "+0- . . . . +0-");
        }

        static void composedInABoxForFullOnes() {
            Dues.sentence("Place i of a BOX has what is COMPOSED of its VECTOR and that at place j");
            SignTriples x = withBox(1, 2);
            layVector(x, 0, "+++");
            layVector(x, 1, "---");
            Dues.due("zeros", x.compose(0, 0, 1), 0);
            Dues.due("box", Made.box(x, 0), "+++ ---");
        }

        static void composedWithoutASecondPlace() {
            Dues.sentence("UNKNOWN; NULL; INDEX (i, j); EMPTY (i, j); OTHER.");
            SignTriples x = withBox(0, 3);
            layVector(x, 0, "+0-");
            int[] places = {-1, 3, 6, Dues.MIN, Dues.MAX};
            for (int place : places) {
                Dues.due("i " + place, x.compose(0, place, 0), INDEX);
                Dues.due("j " + place, x.compose(0, 0, place), INDEX);
                Dues.due("i empty, j " + place, x.compose(0, 1, place), INDEX);
                Dues.due("i " + place + ", j empty", x.compose(0, place, 1), INDEX);
                Dues.due("of a missing one", x.compose(1, place, place), NULL);
                Dues.due("of none", x.compose(3, place, place), UNKNOWN);
            }
            Dues.due("box", Made.box(x, 0), "+0- . .");
        }

        static void composedWithAnEmptyPlace() {
            Dues.sentence("EMPTY -1015 (the place is)");
            SignTriples x = withBox(0, 3);
            layVector(x, 0, "+0-");
            Dues.due("j empty", x.compose(0, 0, 1), EMPTY);
            Dues.due("i empty", x.compose(0, 1, 0), EMPTY);
            Dues.due("both empty", x.compose(0, 1, 2), EMPTY);
            Dues.due("the same empty", x.compose(0, 2, 2), EMPTY);
            Dues.due("box", Made.box(x, 0), "+0- . .");
        }

        static void composedOfUnlikeManyElements() {
            Dues.sentence("OTHER -1016 (VECTORS of unlike many ELEMENTS)");
            SignTriples x = withBox(0, 4);
            layVector(x, 0, "0+0");
            x.add(1, 3, 9);
            x.lay(0, 1, 3, 0);
            Dues.due("of three with four", x.compose(0, 0, 1), OTHER);
            Dues.due("of four with three", x.compose(0, 1, 0), OTHER);
            Dues.due("an empty one goes ahead", x.compose(0, 1, 2), EMPTY);
            Dues.due("box", Made.box(x, 0), "0+0 ++++ . .");
            x.add(1, 4, 16);
            x.lay(0, 2, 3, 0);
            x.lay(0, 3, 0, 0);
            Dues.due("of five with five", x.compose(0, 3, 2), 0);
            Dues.due("of five with three", x.compose(0, 3, 0), OTHER);
            Dues.due("of three with three yet", x.compose(0, 0, 0), 2);
        }

        static void composedOfVectorsThatAreNoMore() {
            Dues.sentence("Place i of a BOX has what is COMPOSED of its VECTOR and that at place j");
            SignTriples x = withBox(0, 2);
            layVector(x, 0, "0+0");
            layVector(x, 1, "-00");
            notOrderly(x);
            Dues.due("not orderly", x.compose(0, 0, 1), 1);
            x.add(0, 0, 1);
            Dues.due("of another number of elements", x.compose(0, 1, 0), 1);
            Dues.due("box", Made.box(x, 0), "-+0 -+0");
        }

        // ---- seen

        static void seenTellsOfTheVectorsElements() {
            Dues.sentence("OUTSIDE: it tells of no such ELEMENT.");
            SignTriples x = Made.allUp(6);
            x.box(0, 0, 4);
            for (int i = 0; i < 4; i++) {
                int n = 6 - i;
                x.lay(0, i, 3, 1);
                for (int e = 0; e < n; e++) {
                    Dues.due("element " + e, x.seen(0, i, e), e == n - 1 ? -1 : 1);
                }
                x.drop(0);
            }
            int[] others = {-1, 6, 7, Dues.MIN, Dues.MAX};
            for (int i = 0; i < 4; i++) {
                Dues.due("one more", x.seen(0, i, 6 - i), OUTSIDE);
                for (int e : others) {
                    Dues.due("element " + e, x.seen(0, i, e), OUTSIDE);
                }
            }
        }

        static void seenIsRefusedInItsOrder() {
            Dues.sentence("UNKNOWN: the BOX; NULL; INDEX; EMPTY; OUTSIDE: it tells of no such ELEMENT.");
            SignTriples x = withBox(0, 2);
            layVector(x, 0, "+0-");
            Dues.due("no box", x.seen(3, 9, 9), UNKNOWN);
            Dues.due("box missing", x.seen(1, 9, 9), NULL);
            Dues.due("no place", x.seen(0, 2, 9), INDEX);
            Dues.due("empty", x.seen(0, 1, 9), EMPTY);
            Dues.due("no element", x.seen(0, 0, 3), OUTSIDE);
        }

        // ---- find

        static void findTheFirstAndTheLast() {
            Dues.sentence("Of a kind of VECTORS the number of the one at place i of a BOX; NONE: it is none of that kind");
            SignTriples x = Made.allUp(4);
            x.box(0, 0, 1);
            for (int kind = 0; kind <= 3; kind++) {
                int many = x.vector(kind, -1, 0);
                for (int k = 0; k < many; k++) {
                    x.lay(0, 0, kind, k);
                    Dues.due("find", x.find(0, 0, kind), k);
                }
            }
            x.lay(0, 0, 0, 0);
            Dues.due("a cocircuit of circuits", x.find(0, 0, 1), SignTriples.NONE);
            Dues.due("a cocircuit of topes", x.find(0, 0, 3), SignTriples.NONE);
            Dues.due("a cocircuit of covectors", x.find(0, 0, 2) >= 0 ? 1 : 0, 1);
        }

        static void findOfAnotherNumberOfElements() {
            Dues.sentence("NONE: it is none of that kind (of another number of ELEMENTS, too)");
            SignTriples x = withBox(0, 2);
            layVector(x, 0, "000");
            layVector(x, 1, "00-");
            x.add(0, 0, 0);
            Dues.due("zeros of three among four", x.find(0, 0, 2), SignTriples.NONE);
            Dues.due("00- of three among four", x.find(0, 1, 0), SignTriples.NONE);
            Dues.due("00- of three among four", x.find(0, 1, 2), SignTriples.NONE);
            x.undo();
            Dues.due("zeros of three", x.find(0, 0, 2), 13);
            Dues.due("00- of three", x.find(0, 1, 0), 3);
        }

        static void findOfFewerElements() {
            Dues.sentence("NONE: it is none of that kind (of another number of ELEMENTS, too)");
            // The first element becomes a loop, and then goes: what is left of 0++0 is ++0.
            SignTriples x = Made.told("signs 4 ooou");
            x.box(0, 0, 2);
            x.lay(0, 0, 2, 1);
            Dues.due("it", Made.seen(x, 0, 0), "0++0");
            x.drop(0);
            Dues.due("of three", x.find(0, 0, 2), SignTriples.NONE);
            x.lay(0, 1, 2, 1);
            Dues.due("it", Made.seen(x, 0, 1), "++0");
            x.undo();
            Dues.due("++0 of four", x.find(0, 1, 2), SignTriples.NONE);
            Dues.due("0++0 of four", x.find(0, 0, 2), 1);
        }

        static void findIsRefusedInItsOrder() {
            Dues.sentence("UNKNOWN; OUTSIDE: kind; NOT: kinds 2, 3, not ORDERLY; NULL; INDEX; EMPTY.");
            SignTriples x = withBox(0, 1);
            int[] kinds = {-1, 4, Dues.MIN, Dues.MAX};
            for (int kind : kinds) {
                Dues.due("no box, kind", x.find(3, 9, kind), UNKNOWN);
                Dues.due("kind, box missing", x.find(1, 9, kind), OUTSIDE);
                Dues.due("kind, empty", x.find(0, 0, kind), OUTSIDE);
            }
            Dues.due("box missing, no place", x.find(1, 9, 3), NULL);
            Dues.due("no place", x.find(0, 1, 3), INDEX);
            Dues.due("empty", x.find(0, 0, 3), EMPTY);
            notOrderly(x);
            Dues.due("not orderly, no box", x.find(3, 9, 3), UNKNOWN);
            Dues.due("not orderly, kind", x.find(0, 0, 4), OUTSIDE);
            Dues.due("not orderly, box missing", x.find(1, 9, 3), NOT);
            Dues.due("not orderly, no place", x.find(0, 1, 2), NOT);
            Dues.due("not orderly, empty", x.find(0, 0, 2), NOT);
            Dues.due("not orderly, of cocircuits", x.find(0, 0, 0), EMPTY);
            Dues.due("not orderly, of circuits", x.find(1, 0, 1), NULL);
        }

        static void findWhenNotOrderly() {
            Dues.sentence("NOT: kinds 2, 3, not ORDERLY");
            SignTriples x = withBox(0, 1);
            layVector(x, 0, "+00");
            notOrderly(x);
            Dues.due("of cocircuits", x.find(0, 0, 0), SignTriples.NONE);
            Dues.due("of circuits", x.find(0, 0, 1), SignTriples.NONE);
            Dues.due("of covectors", x.find(0, 0, 2), NOT);
            Dues.due("of topes", x.find(0, 0, 3), NOT);
            x.add(0, 0, 1);
            x.set(0, 1, 3, 0);
            x.set(0, 2, 3, 0);
            x.set(1, 2, 3, 0);
            Dues.due("of another number of elements", x.find(0, 0, 2), NOT);
        }

        // ---- away

        static void awayTellsHowManyVectorsItHad() {
            Dues.sentence("A BOX is missing from now on: how many VECTORS it had. UNKNOWN; NULL.");
            for (int n = 0; n <= 6; n++) {
                SignTriples x = withBox(0, 6);
                for (int i = 0; i < n; i++) {
                    x.lay(0, 5 - i, 0, 0);
                }
                Dues.due("away", x.away(0), n);
                Dues.due("away again", x.away(0), NULL);
                Dues.due("seen", x.seen(0, 5, 0), NULL);
                Dues.due("vectors", x.count(8), 0);
            }
            Dues.due("without places", withBox(0, 0).away(0), 0);
        }

        static void awayLeavesTheOthers() {
            Dues.sentence("A BOX is missing from now on");
            SignTriples x = new SignTriples();
            for (int box = 0; box < 3; box++) {
                x.box(box, 0, 2);
                x.lay(box, 1, 0, box);
            }
            Dues.due("away", x.away(1), 1);
            Dues.due("box 0", Made.box(x, 0), ". +00");
            Dues.due("box 1", Made.box(x, 1), "?");
            Dues.due("box 2", Made.box(x, 2), ". 00+");
        }

        // ---- count

        static void countsAre0To8() {
            Dues.sentence("8 VECTORS on all BOXES. OUTSIDE.");
            SignTriples x = new SignTriples();
            int[] others = {-1, 9, 10, Dues.MIN, Dues.MAX};
            for (int what : others) {
                Dues.due("count " + what, x.count(what), OUTSIDE);
            }
            int[] due = {3, 1, 1, 0, 0, 0, 0, 0, 0};
            for (int what = 0; what <= 8; what++) {
                Dues.due("count " + what, x.count(what), due[what]);
            }
        }

        static void vectorsOnAllBoxes() {
            Dues.sentence("8 VECTORS on all BOXES");
            SignTriples x = new SignTriples();
            int all = 0;
            for (int box = 0; box < 3; box++) {
                x.box(box, 0, 6);
                for (int i = 0; i < 6; i++) {
                    x.lay(box, i, 0, i);
                    all++;
                    Dues.due("vectors", x.count(8), all);
                }
            }
            x.box(1, 0, 0);
            Dues.due("vectors", x.count(8), 12);
            x.away(2);
            Dues.due("vectors", x.count(8), 6);
        }

        static void lettersAndUndoableAreCounted() {
            Dues.sentence("6 how many can be undone, 7 letters of THE TEXT");
            SignTriples x = new SignTriples();
            for (int i = 1; i <= 10; i++) {
                x.flip(0);
                x.write('a');
                Dues.due("can be undone", x.count(6), Math.min(i, 8));
                Dues.due("letters", x.count(7), i);
            }
            x.undo();
            x.erase();
            Dues.due("can be undone", x.count(6), 7);
            Dues.due("letters", x.count(7), 0);
        }
    }
}
