/**
 * "Refused, and nothing changes": each refusal that a promise names, once by itself, looked at with all that can be asked
 * and gone back to; and of several that fit the one that the call names first.
 */
public final class RefusalsTest {
    private static final int UNKNOWN = SignTriples.UNKNOWN;
    private static final int OUTSIDE = SignTriples.OUTSIDE;
    private static final int NOT = SignTriples.NOT;
    private static final int FULL = SignTriples.FULL;
    private static final int NULL = SignTriples.NULL;
    private static final int SIZE = SignTriples.SIZE;
    private static final int INDEX = SignTriples.INDEX;
    private static final int STORE = SignTriples.STORE;
    private static final int EMPTY = SignTriples.EMPTY;
    private static final int OTHER = SignTriples.OTHER;

    public static void main(String[] args) {
        Dues.runAll(Tests.class);
    }

    private interface Call {
        int on(SignTriples x);
    }

    private enum Begin {
        /** Four elements, orderly; box 0 for any, box 1 for full ones, box 2 missing; kept is 0 alone; a text with a fault. */
        READY,
        /** The same, but that the first five is not good. */
        NOT_ORDERLY,
        /** Three elements. */
        THREE,
        /** Six elements. */
        SIX,
        /** No room for another letter. */
        FULL_TEXT
    }

    private static SignTriples begun(Begin begin) {
        SignTriples x = switch (begin) {
            case READY, FULL_TEXT -> Made.allUp(4);
            case NOT_ORDERLY -> Made.told("signs 5 uuuuouoooo");
            case THREE -> Made.allUp(3);
            case SIX -> Made.allUp(6);
        };
        x.keep(0);
        x.box(0, 0, 4);
        x.box(1, 1, 1);
        x.lay(0, 0, 0, 0);
        x.place(0, 3, 4, 5);
        x.swap(0, 1);
        layOfAnotherNumber(x);
        Made.write(x, "flip 0;flip 1;x");
        for (int i = x.count(7); begin == Begin.FULL_TEXT && i < 200; i++) {
            x.write(' ');
        }
        return x;
    }

    /** Place 1 of box 0 has a vector of one element less, where there are more than three, else of one more. */
    private static void layOfAnotherNumber(SignTriples x) {
        if (x.count(0) > 3) {
            x.drop(2);
        } else {
            x.add(1, 3, 9);
        }
        x.lay(0, 1, 0, 0);
        x.undo();
    }

    private static void refused(Begin begin, String name, Call call, int due) {
        SignTriples x = begun(begin);
        Dues.due(name, call.on(x), due);
        Dues.due("what there is behind " + name, Made.stateAndPast(x), Made.stateAndPast(begun(begin)));
    }

    private static void ready(String name, Call call, int due) {
        refused(Begin.READY, name, call, due);
    }

    private static void notOrderly(String name, Call call, int due) {
        refused(Begin.NOT_ORDERLY, name, call, due);
    }

    static final class Tests {
        static void write() {
            Dues.sentence("Promise 2: OUTSIDE; FULL.");
            ready("write", x -> x.write(-1), OUTSIDE);
            ready("write", x -> x.write(256), OUTSIDE);
            refused(Begin.FULL_TEXT, "write", x -> x.write('a'), FULL);
            refused(Begin.FULL_TEXT, "write", x -> x.write(256), OUTSIDE);
        }

        static void tell() {
            Dues.sentence("Promise 5: NOT: it has a FAULT.");
            ready("tell", x -> x.tell(), NOT);
            refused(Begin.FULL_TEXT, "tell", x -> x.tell(), NOT);
        }

        static void signTurnPoint() {
            Dues.sentence("Promises 6, 7, 8: UNKNOWN: no such ELEMENT. UNKNOWN; OUTSIDE.");
            ready("sign", x -> x.sign(0, 1, 4), UNKNOWN);
            ready("sign", x -> x.sign(-1, 0, 0), UNKNOWN);
            ready("turn", x -> x.turn(4, 0, 1), UNKNOWN);
            ready("turn", x -> x.turn(0, -1, 1), UNKNOWN);
            ready("point", x -> x.point(4, 0), UNKNOWN);
            ready("point", x -> x.point(0, 3), OUTSIDE);
            ready("point", x -> x.point(0, -1), OUTSIDE);
            ready("point", x -> x.point(4, 3), UNKNOWN);
        }

        static void set() {
            Dues.sentence("Promise 9: UNKNOWN; OUTSIDE.");
            ready("set", x -> x.set(0, 1, 4, 0), UNKNOWN);
            ready("set", x -> x.set(0, 1, 1, 0), UNKNOWN);
            ready("set", x -> x.set(0, 1, 2, 2), OUTSIDE);
            ready("set", x -> x.set(0, 1, 2, -2), OUTSIDE);
            ready("set", x -> x.set(0, 1, 4, 2), UNKNOWN);
            ready("set", x -> x.set(0, 0, 1, 2), UNKNOWN);
        }

        static void place() {
            Dues.sentence("Promise 10: UNKNOWN; OUTSIDE.");
            ready("place", x -> x.place(4, 0, 0, 0), UNKNOWN);
            ready("place", x -> x.place(0, 100, 0, 0), OUTSIDE);
            ready("place", x -> x.place(0, 0, -100, 0), OUTSIDE);
            ready("place", x -> x.place(0, 0, 0, 100), OUTSIDE);
            ready("place", x -> x.place(-1, 100, 0, 0), UNKNOWN);
        }

        static void flipAndSwap() {
            Dues.sentence("Promises 11, 12: UNKNOWN.");
            ready("flip", x -> x.flip(4), UNKNOWN);
            ready("flip", x -> x.flip(-1), UNKNOWN);
            ready("swap", x -> x.swap(4, 0), UNKNOWN);
            ready("swap", x -> x.swap(0, 4), UNKNOWN);
            ready("swap", x -> x.swap(2, 2), UNKNOWN);
        }

        static void add() {
            Dues.sentence("Promise 13: OUTSIDE; FULL: 6.");
            ready("add", x -> x.add(100, 0, 0), OUTSIDE);
            ready("add", x -> x.add(0, -100, 0), OUTSIDE);
            ready("add", x -> x.add(0, 0, 100), OUTSIDE);
            refused(Begin.SIX, "add", x -> x.add(0, 0, 0), FULL);
            refused(Begin.SIX, "add", x -> x.add(0, 0, 100), OUTSIDE);
        }

        static void drop() {
            Dues.sentence("Promise 14: UNKNOWN; NOT: there are 3.");
            ready("drop", x -> x.drop(4), UNKNOWN);
            refused(Begin.THREE, "drop", x -> x.drop(0), NOT);
            refused(Begin.THREE, "drop", x -> x.drop(3), UNKNOWN);
        }

        static void undo() {
            Dues.sentence("Promise 16: NOT: none.");
            for (Begin begin : Begin.values()) {
                SignTriples x = begun(begin);
                x.undo();
                x.undo();
                SignTriples y = begun(begin);
                y.undo();
                y.undo();
                Dues.due("undo", x.undo(), NOT);
                Dues.due("what there is", Made.stateAndPast(x), Made.stateAndPast(y));
            }
        }

        static void keepAndBack() {
            Dues.sentence("Promises 17, 18: OUTSIDE; NOT: nothing was kept since the last text.");
            ready("keep", x -> x.keep(2), OUTSIDE);
            ready("keep", x -> x.keep(-1), OUTSIDE);
            ready("back", x -> x.back(2), OUTSIDE);
            ready("back", x -> x.back(-1), OUTSIDE);
            ready("back", x -> x.back(1), NOT);
        }

        static void fiveAndIs() {
            Dues.sentence("Promises 19, 20: UNKNOWN (one twice, too). OUTSIDE.");
            ready("five", x -> x.five(0, 1, 2, 3, 4), UNKNOWN);
            notOrderly("five", x -> x.five(0, 1, 2, 3, 3), UNKNOWN);
            notOrderly("five", x -> x.five(0, 1, 2, 3, 5), UNKNOWN);
            ready("is", x -> x.is(4), OUTSIDE);
            ready("is", x -> x.is(-1), OUTSIDE);
        }

        static void vector() {
            Dues.sentence("Promise 21: OUTSIDE: kind, k below -1; NOT: kinds 2, 3, not ORDERLY; UNKNOWN.");
            ready("vector", x -> x.vector(4, 0, 0), OUTSIDE);
            ready("vector", x -> x.vector(0, -2, 0), OUTSIDE);
            ready("vector", x -> x.vector(0, 12, 0), UNKNOWN);
            ready("vector", x -> x.vector(0, 0, 4), UNKNOWN);
            ready("vector", x -> x.vector(3, -2, 4), OUTSIDE);
            notOrderly("vector", x -> x.vector(2, 0, 0), NOT);
            notOrderly("vector", x -> x.vector(3, -1, 0), NOT);
            notOrderly("vector", x -> x.vector(3, 0, 9), NOT);
            notOrderly("vector", x -> x.vector(3, -2, 9), OUTSIDE);
            notOrderly("vector", x -> x.vector(0, 0, 9), UNKNOWN);
        }

        static void besideAndBetween() {
            Dues.sentence("Promises 22, 23: OUTSIDE; NOT: not ORDERLY; UNKNOWN.");
            ready("beside", x -> x.beside(14), UNKNOWN);
            ready("beside", x -> x.beside(-1), UNKNOWN);
            notOrderly("beside", x -> x.beside(0), NOT);
            notOrderly("beside", x -> x.beside(-1), NOT);
            ready("between", x -> x.between(0, 14, 0), UNKNOWN);
            ready("between", x -> x.between(-1, 0, 2), UNKNOWN);
            ready("between", x -> x.between(0, 0, 3), OUTSIDE);
            ready("between", x -> x.between(14, 0, -1), OUTSIDE);
            notOrderly("between", x -> x.between(0, 0, 1), NOT);
            notOrderly("between", x -> x.between(-1, 0, 1), NOT);
            notOrderly("between", x -> x.between(0, 0, 3), OUTSIDE);
        }

        static void mutationAndExtensions() {
            Dues.sentence("Promises 24, 25: NOT: not ORDERLY; UNKNOWN. NOT: not ORDERLY, or more than 4 ELEMENTS.");
            ready("mutation", x -> x.mutation(4), UNKNOWN);
            ready("mutation", x -> x.mutation(-2), UNKNOWN);
            notOrderly("mutation", x -> x.mutation(0), NOT);
            notOrderly("mutation", x -> x.mutation(-2), NOT);
            notOrderly("extensions", x -> x.extensions(), NOT);
            refused(Begin.SIX, "extensions", x -> x.extensions(), NOT);
        }

        static void box() {
            Dues.sentence("Promise 26: UNKNOWN; OUTSIDE (sort; n above 6); SIZE.");
            ready("box", x -> x.box(3, 0, 1), UNKNOWN);
            ready("box", x -> x.box(-1, 2, 7), UNKNOWN);
            ready("box", x -> x.box(0, 2, 1), OUTSIDE);
            ready("box", x -> x.box(0, 0, 7), OUTSIDE);
            ready("box", x -> x.box(2, -1, -1), OUTSIDE);
            ready("box", x -> x.box(0, 0, -1), SIZE);
            ready("box", x -> x.box(2, 1, -1), SIZE);
        }

        static void lay() {
            Dues.sentence("Promise 27: OUTSIDE: kind; NOT: kinds 2, 3, not ORDERLY; UNKNOWN (VECTOR; BOX); NULL; INDEX; STORE.");
            ready("lay", x -> x.lay(0, 0, 4, 0), OUTSIDE);
            ready("lay", x -> x.lay(3, 4, -1, 99), OUTSIDE);
            notOrderly("lay", x -> x.lay(0, 0, 2, 0), NOT);
            notOrderly("lay", x -> x.lay(3, 4, 3, 99), NOT);
            ready("lay", x -> x.lay(0, 0, 0, 12), UNKNOWN);
            ready("lay", x -> x.lay(0, 0, 0, -1), UNKNOWN);
            ready("lay", x -> x.lay(3, 4, 0, 0), UNKNOWN);
            ready("lay", x -> x.lay(2, 4, 0, 99), UNKNOWN);
            ready("lay", x -> x.lay(2, 4, 0, 0), NULL);
            ready("lay", x -> x.lay(1, 1, 0, 0), INDEX);
            ready("lay", x -> x.lay(0, -1, 0, 0), INDEX);
            ready("lay", x -> x.lay(1, 0, 0, 0), STORE);
        }

        static void compose() {
            Dues.sentence("Promise 28: UNKNOWN; NULL; INDEX (i, j); EMPTY (i, j); OTHER.");
            ready("compose", x -> x.compose(3, 0, 0), UNKNOWN);
            ready("compose", x -> x.compose(2, 4, 4), NULL);
            ready("compose", x -> x.compose(0, 4, 0), INDEX);
            ready("compose", x -> x.compose(0, 0, 4), INDEX);
            ready("compose", x -> x.compose(0, 2, 4), INDEX);
            ready("compose", x -> x.compose(0, 4, 2), INDEX);
            ready("compose", x -> x.compose(0, 0, 2), EMPTY);
            ready("compose", x -> x.compose(0, 3, 1), EMPTY);
            ready("compose", x -> x.compose(0, 0, 1), OTHER);
            ready("compose", x -> x.compose(0, 1, 0), OTHER);
        }

        static void seen() {
            Dues.sentence("Promise 29: UNKNOWN: the BOX; NULL; INDEX; EMPTY; OUTSIDE: it tells of no such ELEMENT.");
            ready("seen", x -> x.seen(3, 4, 9), UNKNOWN);
            ready("seen", x -> x.seen(2, 4, 9), NULL);
            ready("seen", x -> x.seen(0, 4, 9), INDEX);
            ready("seen", x -> x.seen(0, 2, 9), EMPTY);
            ready("seen", x -> x.seen(0, 0, 4), OUTSIDE);
            ready("seen", x -> x.seen(0, 1, 3), OUTSIDE);
        }

        static void find() {
            Dues.sentence("Promise 30: UNKNOWN; OUTSIDE: kind; NOT: kinds 2, 3, not ORDERLY; NULL; INDEX; EMPTY.");
            ready("find", x -> x.find(3, 4, 9), UNKNOWN);
            ready("find", x -> x.find(2, 4, 4), OUTSIDE);
            notOrderly("find", x -> x.find(2, 4, 3), NOT);
            ready("find", x -> x.find(2, 4, 3), NULL);
            ready("find", x -> x.find(0, 4, 3), INDEX);
            ready("find", x -> x.find(0, 2, 3), EMPTY);
        }

        static void away() {
            Dues.sentence("Promise 31: UNKNOWN; NULL.");
            ready("away", x -> x.away(3), UNKNOWN);
            ready("away", x -> x.away(-1), UNKNOWN);
            ready("away", x -> x.away(2), NULL);
        }

        static void count() {
            Dues.sentence("Promise 32: OUTSIDE.");
            ready("count", x -> x.count(9), OUTSIDE);
            ready("count", x -> x.count(-1), OUTSIDE);
        }

        static void constantsAreAsTold() {
            Dues.sentence("public static final int NONE = -1, UNKNOWN = -1001, OUTSIDE = -1002, NOT = -1003, FULL = -1004, "
                    + "NULL = -1011, SIZE = -1012, INDEX = -1013, STORE = -1014, EMPTY = -1015, OTHER = -1016;");
            Dues.due("NONE", SignTriples.NONE, -1);
            Dues.due("UNKNOWN", UNKNOWN, -1001);
            Dues.due("OUTSIDE", OUTSIDE, -1002);
            Dues.due("NOT", NOT, -1003);
            Dues.due("FULL", FULL, -1004);
            Dues.due("NULL", NULL, -1011);
            Dues.due("SIZE", SIZE, -1012);
            Dues.due("INDEX", INDEX, -1013);
            Dues.due("STORE", STORE, -1014);
            Dues.due("EMPTY", EMPTY, -1015);
            Dues.due("OTHER", OTHER, -1016);
        }
    }
}
