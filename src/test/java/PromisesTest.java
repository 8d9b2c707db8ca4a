/** Each promise of the document by its number: ordinary inputs, the edges that it names, wrong inputs. */
public final class PromisesTest {
    private static final int MIN = Integer.MIN_VALUE;
    private static final int MAX = Integer.MAX_VALUE;
    private static int wrong = 0;

    public static void main(String[] args) {
        promise1();
        promise2();
        promise3();
        promise4();
        promise4Places();
        promise4Bounds();
        promise5();
        promise5Clauses();
        promise6();
        promise7();
        promise8();
        promise9();
        promise10();
        promise11();
        promise12();
        promise13();
        promise14();
        promise15();
        promise16();
        promise17And18();
        promise19();
        promise20();
        promise21();
        promise21Order();
        promise21Anew();
        promise22();
        promise23();
        promise24();
        promise25();
        promise26();
        promise27();
        promise28();
        promise29();
        promise30();
        promise31();
        promise32();
        System.out.println(wrong == 0 ? "promises: all answers are as due" : "promises: " + wrong + " answers are not as due");
        if (wrong != 0) {
            System.exit(1);
        }
    }

    private static void due(String call, int got, int want) {
        if (got != want) {
            wrong++;
            System.out.println(call + " answered " + got + ", due is " + want);
        }
    }

    private static void dues(String call, String got, String want) {
        if (!got.equals(want)) {
            wrong++;
            System.out.println(call + " answered " + got + ", due is " + want);
        }
    }

    private static SignTriples written(String text) {
        SignTriples x = new SignTriples();
        write(x, text);
        return x;
    }

    private static void write(SignTriples x, String text) {
        for (int i = 0; i < text.length(); i++) {
            x.write(text.charAt(i));
        }
    }

    private static SignTriples told(String text) {
        SignTriples x = written(text);
        if (x.tell() < 0) {
            due("tell " + text, SignTriples.NOT, 1);
        }
        return x;
    }

    private static void faultOf(String text, int want) {
        due("fault of '" + text + "'", written(text).fault(), want);
        due("tell of '" + text + "'", written(text).tell() < 0 ? SignTriples.NOT : 0, want < 0 ? 0 : SignTriples.NOT);
    }

    private static String signs(SignTriples x) {
        StringBuilder all = new StringBuilder();
        for (int a = 0; a < x.count(0); a++) {
            for (int b = a + 1; b < x.count(0); b++) {
                for (int c = b + 1; c < x.count(0); c++) {
                    all.append("dou".charAt(x.sign(a, b, c) + 1));
                }
            }
        }
        return all.toString();
    }

    private static String points(SignTriples x) {
        StringBuilder all = new StringBuilder();
        for (int e = 0; e < x.count(0); e++) {
            all.append(x.point(e, 0)).append(' ').append(x.point(e, 1)).append(' ').append(x.point(e, 2)).append(';');
        }
        return all.toString();
    }

    private static String vectors(SignTriples x, int kind) {
        StringBuilder all = new StringBuilder();
        for (int k = 0; k < x.vector(kind, -1, 0); k++) {
            for (int e = 0; e < x.count(0); e++) {
                all.append("-0+".charAt(x.vector(kind, k, e) + 1));
            }
            all.append(' ');
        }
        return all.toString();
    }

    private static void promise1() {
        SignTriples x = new SignTriples();
        dues("signs at first", signs(x), "u");
        dues("points at first", points(x), "1 0 0;1 1 1;1 2 4;");
        due("elements at first", x.count(0), 3);
        due("undoable at first", x.count(6), 0);
        due("letters at first", x.count(7), 0);
        due("vectors at first", x.count(8), 0);
        for (int box = 0; box < 3; box++) {
            due("box missing at first", x.away(box), SignTriples.NULL);
        }
        due("kept at first", x.back(0), SignTriples.NOT);
        due("kept at first", x.back(1), SignTriples.NOT);
    }

    private static void promise2() {
        SignTriples x = new SignTriples();
        due("write 0", x.write(0), 1);
        due("write 255", x.write(255), 2);
        due("write 256", x.write(256), SignTriples.OUTSIDE);
        due("write -1", x.write(-1), SignTriples.OUTSIDE);
        due("write MIN", x.write(MIN), SignTriples.OUTSIDE);
        due("write MAX", x.write(MAX), SignTriples.OUTSIDE);
        due("letters", x.count(7), 2);
        for (int i = 3; i <= 200; i++) {
            due("write", x.write('a'), i);
        }
        due("write a 201st", x.write('a'), SignTriples.FULL);
        due("write 256, full", x.write(256), SignTriples.OUTSIDE);
        due("letters", x.count(7), 200);
        due("erase", x.erase(), 200);
        due("write after erase", x.write('a'), 1);
    }

    private static void promise3() {
        SignTriples x = new SignTriples();
        due("erase of nothing", x.erase(), 0);
        write(x, "draw");
        due("erase", x.erase(), 4);
        due("erase again", x.erase(), 0);
        due("letters", x.count(7), 0);
        due("fault of nothing", x.fault(), 0);
        due("undo: erase is no deed", x.undo(), SignTriples.NOT);
    }

    private static void promise4() {
        String[] good = {"draw", "  draw  ", "signs 3 u", "signs3u", "signs03d", "signs 6 uodduodduodduodduodd", "point 0 0 99 9",
            "point0 1-1- 1", "point 02 - 99 -0 00", "flip 2", "flip02", "swap 0 2", "swap 2 00", "signs 5 oooooooooo;flip 4",
            "signs 4 uuuu ; point 3 1 1 1 ; swap 3 0;draw", "signs 6 uuuuuuuuuuuuuuuuuuuu;signs 3 d;flip 2"};
        for (String text : good) {
            faultOf(text, SignTriples.NONE);
        }
        SignTriples x = written("flip 3");
        due("fault changes nothing", x.fault(), 5);
        due("fault changes nothing", x.fault(), 5);
        due("letters stay", x.count(7), 6);
        x.add(0, 0, 1);
        due("an element as there is", x.fault(), SignTriples.NONE);
        x.drop(0);
        due("an element as there is", x.fault(), 5);
        SignTriples y = written("signs 6 dddddddddddddddddddd; draw; flip 0");
        due("fault", y.fault(), SignTriples.NONE);
        dues("fault does nothing", signs(y), "u");
        dues("fault does nothing", points(y), "1 0 0;1 1 1;1 2 4;");
    }

    private static void promise4Places() {
        faultOf("", 0);
        faultOf("   ", 3);
        faultOf("; draw", 0);
        faultOf(" ;", 1);
        faultOf("draw;", 5);
        faultOf("draw ; ", 7);
        faultOf("draw;;draw", 5);
        faultOf("draw draw", 5);
        faultOf("drawdraw", 0);
        faultOf(" draws", 1);
        faultOf("Draw", 0);
        faultOf("dRaw", 0);
        faultOf("draw.", 4);
        faultOf("draw 0", 5);
        faultOf("draw\t", 4);
        faultOf("draw\n;draw", 4);
        faultOf("draw" + (char) 0, 4);
        faultOf("draw" + (char) 160, 4);
        faultOf("draw" + (char) 255, 4);
        faultOf("flip", 4);
        faultOf("flip  ", 6);
        faultOf("flip u", 5);
        faultOf("flip -1", 5);
        faultOf("flip 1 1", 7);
        faultOf("swap 1", 6);
        faultOf("swap 1 1", 7);
        faultOf("swap 1 01", 7);
        faultOf("swap 1 3", 7);
        faultOf("swap 3 1", 5);
        faultOf("swap 1 2 0", 9);
        faultOf("signs", 5);
        faultOf("signs 3", 7);
        faultOf("signs 3 4", 8);
        faultOf("signs u", 6);
        faultOf("signs 3 u u", 10);
        faultOf("signs 3 -", 8);
        faultOf("point 0 1 2", 11);
        faultOf("point 0 1 2 - ", 14);
        faultOf("point 0 1 2 - - 3", 14);
        faultOf("point 0 1 2 3 4", 14);
        faultOf("point 0 1 2 -;", 13);
        faultOf("point -0 1 2 3", 6);
        faultOf("point 0 1 2 + 3", 12);
        faultOf("point 012 3", 6);
        faultOf("point", 5);
        faultOf("point;draw", 5);
        faultOf("point 0", 7);
        faultOf("point 0;draw", 7);
        faultOf("point 0 1", 9);
        faultOf("point 0 1;draw", 9);
        faultOf("point 0 1 2;draw", 11);
        faultOf("swap", 4);
        faultOf("swap;draw", 4);
        faultOf("swap 1;draw", 6);
        faultOf("flip;draw", 4);
        faultOf("signs;draw", 5);
        faultOf("signs 3;draw", 7);
        faultOf("draw;z", 5);
        faultOf("drawz", 0);
        faultOf("draw{", 4);
        faultOf("draw`", 4);
        faultOf("flip 1:", 6);
        faultOf("flip 1/", 6);
        faultOf("sign 3 u", 0);
        faultOf("draw;flip 3;swap", 10);
    }

    private static void promise4Bounds() {
        faultOf("signs 2 o", 6);
        faultOf("signs 7 o", 6);
        faultOf("signs 003 u", 6);
        faultOf("signs 4 uuu", 8);
        faultOf("signs 4 uuuuu", 8);
        faultOf("signs 5 uuuuuuuuux", 8);
        faultOf("signs 4 uuUu", 8);
        faultOf("signs 4 uu0u", 8);
        faultOf("signs 4 uuuu;flip 4", 18);
        faultOf("signs 4 uuuu;flip 3", SignTriples.NONE);
        faultOf("point 3 1 1 1", 6);
        faultOf("point 0 100 1 1", 8);
        faultOf("point 0 - 100 1 1", 10);
        faultOf("point 0 099 1 1", 8);
        faultOf("point 0 99999999999999999999 1 1", 8);
        faultOf("flip 003", 5);
        faultOf("draw;".repeat(23) + "draw", SignTriples.NONE);
        faultOf("draw;".repeat(23) + "draw  ", SignTriples.NONE);
        faultOf("draw;".repeat(24), 119);
        faultOf("draw;".repeat(24) + "draw", 119);
        faultOf("draw;".repeat(24) + "x", 119);
        faultOf("draw;".repeat(23) + "draw x", 120);
        faultOf("draw;".repeat(23) + "flip 3", 120);
        faultOf(" ".repeat(196) + "draw", SignTriples.NONE);
        faultOf(" ".repeat(197) + "dra", 197);
        faultOf("draw" + " ".repeat(196), SignTriples.NONE);
    }

    private static void promise5() {
        SignTriples x = new SignTriples();
        due("tell of nothing", x.tell(), SignTriples.NOT);
        write(x, "draw;flip 3");
        due("tell with a fault", x.tell(), SignTriples.NOT);
        due("the text stays", x.count(7), 11);
        dues("nothing is done", signs(x), "u");
        x.erase();
        x.keep(0);
        x.flip(0);
        x.box(1, 0, 2);
        x.lay(1, 0, 0, 0);
        write(x, "flip 3");
        due("tell with a fault", x.tell(), SignTriples.NOT);
        due("can be undone yet", x.count(6), 1);
        due("kept yet", x.back(0), 3);
        x.flip(0);
        x.erase();
        write(x, "draw");
        due("tell", x.tell(), 1);
        due("the text is empty", x.count(7), 0);
        due("nothing can be undone", x.undo(), SignTriples.NOT);
        due("nothing is kept", x.back(0), SignTriples.NOT);
        due("boxes stay", x.count(8), 1);
        due("boxes stay", x.seen(1, 0, 0), 1);
        due("a letter behind a told text", told("draw").write('d'), 1);
        due("three clauses", written("flip 0 ; flip 0;draw").tell(), 3);
        due("24 clauses", written("draw;".repeat(23) + "draw").tell(), 24);
    }

    private static void promise5Clauses() {
        dues("all elements anew", points(told("point 1 5 5 5;signs 4 udou")), "1 0 0;1 1 1;1 2 4;1 3 9;");
        dues("signs", signs(told("signs 4 udou")), "udou");
        dues("signs", signs(told("signs 6 uodduodduodduodduodd")), "uodduodduodduodduodd");
        SignTriples six = told("signs 6 uuuoooodddduuuoooddd");
        due("sign 0 1 4", six.sign(0, 1, 4), 1);
        due("sign 0 1 5", six.sign(0, 1, 5), 0);
        due("sign 0 2 5", six.sign(0, 2, 5), 0);
        due("sign 0 3 4", six.sign(0, 3, 4), -1);
        due("sign 3 4 5", six.sign(3, 4, 5), -1);
        dues("a point alone", points(told("point 1 5 - 99 0")), "1 0 0;5 -99 0;1 2 4;");
        dues("signs stay", signs(told("point 1 0 0 0")), "u");
        dues("signs drawn", signs(told("point 1 0 0 0;draw")), "o");
        dues("in their order", signs(told("draw;point 1 0 0 0")), "u");
        dues("a flip", points(told("flip 2")), "1 0 0;1 1 1;-1 -2 -4;");
        dues("a flip", signs(told("flip 2")), "d");
        dues("a swap", points(told("swap 0 2")), "1 2 4;1 1 1;1 0 0;");
        dues("a swap", signs(told("signs 4 udou;swap 0 3")), "uuou");
        SignTriples x = new SignTriples();
        x.add(0, 0, 1);
        x.flip(1);
        write(x, "flip 3");
        x.tell();
        dues("what there was stays", points(x), "1 0 0;-1 -1 -1;1 2 4;0 0 -1;");
        dues("what there was stays", signs(x), "dudu");
    }

    private static void promise6() {
        SignTriples x = told("signs 4 udod");
        due("sign 0 1 2", x.sign(0, 1, 2), 1);
        due("sign 1 2 0", x.sign(1, 2, 0), 1);
        due("sign 2 0 1", x.sign(2, 0, 1), 1);
        due("sign 0 2 1", x.sign(0, 2, 1), -1);
        due("sign 2 1 0", x.sign(2, 1, 0), -1);
        due("sign 1 0 2", x.sign(1, 0, 2), -1);
        due("sign 0 1 3", x.sign(0, 1, 3), -1);
        due("sign 3 1 0", x.sign(3, 1, 0), 1);
        due("sign 0 2 3", x.sign(0, 2, 3), 0);
        due("sign 2 3 1", x.sign(2, 3, 1), -1);
        due("sign 1 3 2", x.sign(1, 3, 2), 1);
        due("sign 0 0 1", x.sign(0, 0, 1), 0);
        due("sign 0 1 0", x.sign(0, 1, 0), 0);
        due("sign 1 0 0", x.sign(1, 0, 0), 0);
        due("sign 3 3 3", x.sign(3, 3, 3), 0);
        due("sign 0 1 4", x.sign(0, 1, 4), SignTriples.UNKNOWN);
        due("sign -1 1 2", x.sign(-1, 1, 2), SignTriples.UNKNOWN);
        due("sign 0 MAX 2", x.sign(0, MAX, 2), SignTriples.UNKNOWN);
        due("sign 0 0 MIN", x.sign(0, 0, MIN), SignTriples.UNKNOWN);
    }

    private static void promise7() {
        SignTriples x = told("signs 4 dddd;point 0 1 0 0;point 1 0 1 0;point 2 0 0 1;point 3 1 1 0");
        due("turn 0 1 2", x.turn(0, 1, 2), 1);
        due("turn 1 2 0", x.turn(1, 2, 0), 1);
        due("turn 0 2 1", x.turn(0, 2, 1), -1);
        due("turn 2 1 0", x.turn(2, 1, 0), -1);
        due("turn 0 1 3", x.turn(0, 1, 3), 0);
        due("turn 3 1 2", x.turn(3, 1, 2), 1);
        due("turn 0 0 2", x.turn(0, 0, 2), 0);
        due("turn 1 2 1", x.turn(1, 2, 1), 0);
        due("turn 0 1 4", x.turn(0, 1, 4), SignTriples.UNKNOWN);
        due("turn -1 0 1", x.turn(-1, 0, 1), SignTriples.UNKNOWN);
        due("turn 0 MIN 1", x.turn(0, MIN, 1), SignTriples.UNKNOWN);
        SignTriples y = told("point 0 99 98 97;point 1 -99 99 98;point 2 98 -97 99");
        due("turn of far points", y.turn(0, 1, 2), 1);
        y.place(2, 0, 99, 97);
        y.place(1, 99, 0, 98);
        y.place(0, 99, 99, -99);
        due("turn of far points", y.turn(0, 1, 2), -1);
        y.place(0, 1, 2, 3);
        y.place(1, -2, -4, -6);
        due("turn of points in one direction", y.turn(0, 1, 2), 0);
    }

    private static void promise8() {
        SignTriples x = told("point 2 4 - 5 6");
        due("point 2 0", x.point(2, 0), 4);
        due("point 2 1", x.point(2, 1), -5);
        due("point 2 2", x.point(2, 2), 6);
        due("point 0 0", x.point(0, 0), 1);
        due("point 0 3", x.point(0, 3), SignTriples.OUTSIDE);
        due("point 0 -1", x.point(0, -1), SignTriples.OUTSIDE);
        due("point 0 MAX", x.point(0, MAX), SignTriples.OUTSIDE);
        due("point 3 0", x.point(3, 0), SignTriples.UNKNOWN);
        due("point -1 0", x.point(-1, 0), SignTriples.UNKNOWN);
        due("point 3 3", x.point(3, 3), SignTriples.UNKNOWN);
        due("point MIN MIN", x.point(MIN, MIN), SignTriples.UNKNOWN);
    }

    private static void promise9() {
        SignTriples x = told("signs 4 udou");
        due("set 0 3 1 1", x.set(0, 3, 1, 1), 1);
        dues("signs", signs(x), "udou");
        due("set 3 1 0 -1", x.set(3, 1, 0, -1), 1);
        dues("signs", signs(x), "uuou");
        due("set 2 0 3 1", x.set(2, 0, 3, 1), 0);
        dues("signs", signs(x), "uudu");
        due("set 1 2 3 0", x.set(1, 2, 3, 0), 1);
        dues("signs", signs(x), "uudo");
        due("set can be undone", x.count(6), 4);
        due("set 0 1 1 0", x.set(0, 1, 1, 0), SignTriples.UNKNOWN);
        due("set 1 1 0 0", x.set(1, 1, 0, 0), SignTriples.UNKNOWN);
        due("set 1 0 1 0", x.set(1, 0, 1, 0), SignTriples.UNKNOWN);
        due("set 0 1 4 0", x.set(0, 1, 4, 0), SignTriples.UNKNOWN);
        due("set -1 1 2 0", x.set(-1, 1, 2, 0), SignTriples.UNKNOWN);
        due("set 0 MIN 2 0", x.set(0, MIN, 2, 0), SignTriples.UNKNOWN);
        due("set 0 1 4 5", x.set(0, 1, 4, 5), SignTriples.UNKNOWN);
        due("set 0 1 2 2", x.set(0, 1, 2, 2), SignTriples.OUTSIDE);
        due("set 0 1 2 -2", x.set(0, 1, 2, -2), SignTriples.OUTSIDE);
        due("set 0 1 2 MIN", x.set(0, 1, 2, MIN), SignTriples.OUTSIDE);
        due("refused ones can't be undone", x.count(6), 4);
        dues("points stay", points(x), "1 0 0;1 1 1;1 2 4;1 3 9;");
    }

    private static void promise10() {
        SignTriples x = new SignTriples();
        due("place", x.place(1, -99, 99, 0), 1);
        due("the same place", x.place(1, -99, 99, 0), 0);
        due("one number other", x.place(1, -99, 99, 1), 1);
        due("one number other", x.place(1, -99, 98, 1), 1);
        due("one number other", x.place(1, 99, 98, 1), 1);
        dues("points", points(x), "1 0 0;99 98 1;1 2 4;");
        dues("signs stay", signs(x), "u");
        due("undoable", x.count(6), 5);
        due("place 3", x.place(3, 0, 0, 0), SignTriples.UNKNOWN);
        due("place -1 100", x.place(-1, 100, 0, 0), SignTriples.UNKNOWN);
        due("place 100 0 0", x.place(0, 100, 0, 0), SignTriples.OUTSIDE);
        due("place 0 -100 0", x.place(0, 0, -100, 0), SignTriples.OUTSIDE);
        due("place 0 0 MIN", x.place(0, 0, 0, MIN), SignTriples.OUTSIDE);
        due("undoable", x.count(6), 5);
        dues("points", points(x), "1 0 0;99 98 1;1 2 4;");
    }

    private static void promise11() {
        SignTriples x = told("signs 4 udou");
        due("flip 0", x.flip(0), 2);
        dues("signs", signs(x), "duou");
        dues("points", points(x), "-1 0 0;1 1 1;1 2 4;1 3 9;");
        due("flip 3", x.flip(3), 2);
        dues("signs", signs(x), "ddod");
        due("flip 1", x.flip(1), 3);
        dues("signs", signs(x), "uuou");
        due("flip 4", x.flip(4), SignTriples.UNKNOWN);
        due("flip -1", x.flip(-1), SignTriples.UNKNOWN);
        due("flip MIN", x.flip(MIN), SignTriples.UNKNOWN);
        due("undoable", x.count(6), 3);
        SignTriples y = told("signs 3 o");
        due("flip of nothing", y.flip(0), 0);
        due("undoable", y.count(6), 1);
        due("what was drawn stays drawn", new SignTriples().flip(1), 1);
        SignTriples z = new SignTriples();
        z.flip(1);
        due("what was drawn stays drawn", z.is(2), 1);
    }

    private static void promise12() {
        SignTriples x = told("signs 4 udou");
        due("swap 0 3", x.swap(0, 3), 1);
        dues("signs", signs(x), "uuou");
        dues("points", points(x), "1 3 9;1 1 1;1 2 4;1 0 0;");
        due("swap 3 0", x.swap(3, 0), 1);
        dues("signs", signs(x), "udou");
        due("swap 1 2", x.swap(1, 2), 4);
        dues("signs", signs(x), "dodd");
        due("swap 1 1", x.swap(1, 1), SignTriples.UNKNOWN);
        due("swap 1 4", x.swap(1, 4), SignTriples.UNKNOWN);
        due("swap -1 0", x.swap(-1, 0), SignTriples.UNKNOWN);
        due("swap MIN MIN", x.swap(MIN, MIN), SignTriples.UNKNOWN);
        due("undoable", x.count(6), 3);
        SignTriples six = told("signs 6 uodduodduodduodduodd");
        String was = signs(six);
        String becomes = signsSwapped("signs 6 uodduodduodduodduodd", 1, 4);
        int unlike = 0;
        for (int t = 0; t < 20; t++) {
            unlike += was.charAt(t) == becomes.charAt(t) ? 0 : 1;
        }
        due("swap 1 4", six.swap(1, 4), unlike);
        dues("signs", signs(six), becomes);
        SignTriples y = told("signs 3 o");
        due("swap of nothing", y.swap(0, 1), 0);
        due("undoable", y.count(6), 1);
    }

    /** The signs by the words of the call: each element's number changed, each triple looked up as it was. */
    private static String signsSwapped(String text, int e, int f) {
        SignTriples was = told(text);
        StringBuilder all = new StringBuilder();
        for (int a = 0; a < was.count(0); a++) {
            for (int b = a + 1; b < was.count(0); b++) {
                for (int c = b + 1; c < was.count(0); c++) {
                    all.append("dou".charAt(was.sign(other(a, e, f), other(b, e, f), other(c, e, f)) + 1));
                }
            }
        }
        return all.toString();
    }

    private static int other(int a, int e, int f) {
        return a == e ? f : a == f ? e : a;
    }

    private static void promise13() {
        SignTriples x = new SignTriples();
        x.set(0, 1, 2, -1);
        due("add", x.add(0, 0, 1), 4);
        dues("signs", signs(x), "duuu");
        dues("points", points(x), "1 0 0;1 1 1;1 2 4;0 0 1;");
        due("add", x.add(0, 0, -99), 5);
        dues("signs", signs(x), "dududoudoo");
        due("add", x.add(100, 0, 0), SignTriples.OUTSIDE);
        due("add", x.add(0, -100, 0), SignTriples.OUTSIDE);
        due("add", x.add(0, 0, MIN), SignTriples.OUTSIDE);
        due("add", x.add(99, -99, 99), 6);
        due("add a seventh", x.add(0, 0, 0), SignTriples.FULL);
        due("add a seventh outside", x.add(0, 0, 100), SignTriples.OUTSIDE);
        due("elements", x.count(0), 6);
        due("undoable", x.count(6), 4);
    }

    private static void promise14() {
        SignTriples x = told("signs 6 uodduodduodduodduodd;point 5 9 8 7");
        due("drop 6", x.drop(6), SignTriples.UNKNOWN);
        due("drop -1", x.drop(-1), SignTriples.UNKNOWN);
        due("drop 1", x.drop(1), 5);
        dues("signs", signs(x), "uodduouodd");
        dues("points", points(x), "1 0 0;1 2 4;1 3 9;1 4 16;9 8 7;");
        due("drop 4", x.drop(4), 4);
        dues("signs", signs(x), "uodu");
        due("drop 0", x.drop(0), 3);
        dues("signs", signs(x), "u");
        due("drop at three", x.drop(0), SignTriples.NOT);
        due("drop 3 at three", x.drop(3), SignTriples.UNKNOWN);
        due("drop MIN", x.drop(MIN), SignTriples.UNKNOWN);
        due("undoable", x.count(6), 3);
        x.undo();
        x.undo();
        x.undo();
        dues("signs", signs(x), "uodduodduodduodduodd");
    }

    private static void promise15() {
        SignTriples x = told("signs 4 udou");
        due("draw", x.draw(), 2);
        dues("signs", signs(x), "uuuu");
        due("draw again", x.draw(), 0);
        due("undoable", x.count(6), 2);
        dues("points stay", points(x), "1 0 0;1 1 1;1 2 4;1 3 9;");
        x.place(0, 1, 3, 9);
        due("draw", x.draw(), 2);
        dues("signs", signs(x), "uoou");
    }

    private static void promise16() {
        SignTriples x = new SignTriples();
        due("undo of nothing", x.undo(), SignTriples.NOT);
        x.set(0, 1, 2, -1);
        x.place(0, 3, 3, 3);
        x.flip(1);
        x.swap(0, 2);
        x.add(1, 2, 3);
        x.drop(0);
        x.draw();
        x.draw();
        due("undoable", x.count(6), 8);
        due("undo draw", x.undo(), 7);
        due("undo draw", x.undo(), 6);
        due("undo drop", x.undo(), 5);
        due("elements", x.count(0), 4);
        due("undo add", x.undo(), 4);
        due("elements", x.count(0), 3);
        dues("points", points(x), "1 2 4;-1 -1 -1;3 3 3;");
        due("undo swap", x.undo(), 3);
        dues("points", points(x), "3 3 3;-1 -1 -1;1 2 4;");
        due("undo flip", x.undo(), 2);
        dues("signs", signs(x), "d");
        due("undo place", x.undo(), 1);
        dues("points", points(x), "1 0 0;1 1 1;1 2 4;");
        dues("signs", signs(x), "d");
        due("undo set", x.undo(), 0);
        dues("signs", signs(x), "u");
        due("undo of nothing", x.undo(), SignTriples.NOT);
        for (int i = 1; i <= 20; i++) {
            x.place(0, i, 0, 0);
            due("undoable", x.count(6), Math.min(i, 8));
        }
        for (int i = 7; i >= 0; i--) {
            due("undo", x.undo(), i);
            due("point", x.point(0, 0), 12 + i);
        }
        due("a ninth", x.undo(), SignTriples.NOT);
        due("point", x.point(0, 0), 12);
        x.keep(0);
        x.box(0, 0, 1);
        x.write('a');
        due("keep, box, write are no deeds", x.undo(), SignTriples.NOT);
    }

    private static void promise17And18() {
        SignTriples x = new SignTriples();
        due("keep 2", x.keep(2), SignTriples.OUTSIDE);
        due("keep -1", x.keep(-1), SignTriples.OUTSIDE);
        due("keep MIN", x.keep(MIN), SignTriples.OUTSIDE);
        due("back 2", x.back(2), SignTriples.OUTSIDE);
        due("back -1", x.back(-1), SignTriples.OUTSIDE);
        due("back MAX", x.back(MAX), SignTriples.OUTSIDE);
        x.add(0, 0, 1);
        due("keep 1", x.keep(1), 4);
        due("back 0", x.back(0), SignTriples.NOT);
        due("undoable yet", x.count(6), 1);
        x.flip(0);
        x.add(1, 1, 0);
        due("keep 0", x.keep(0), 5);
        due("undoable yet", x.count(6), 3);
        x.drop(0);
        x.draw();
        due("back 1", x.back(1), 4);
        due("nothing can be undone", x.undo(), SignTriples.NOT);
        dues("signs", signs(x), "uuuu");
        dues("points", points(x), "1 0 0;1 1 1;1 2 4;0 0 1;");
        x.flip(3);
        due("back 1 again", x.back(1), 4);
        dues("signs", signs(x), "uuuu");
        due("back 0", x.back(0), 5);
        dues("points", points(x), "-1 0 0;1 1 1;1 2 4;0 0 1;1 1 0;");
        due("keep another one", x.keep(1), 5);
        x.drop(4);
        due("back 1", x.back(1), 5);
        write(x, "draw");
        x.tell();
        due("back after a text", x.back(0), SignTriples.NOT);
        due("back after a text", x.back(1), SignTriples.NOT);
        x.keep(0);
        due("back", x.back(0), 5);
    }

    private static void promise19() {
        SignTriples x = told("signs 5 uuuuuuuuuu");
        due("five", x.five(0, 1, 2, 3, 4), 1);
        due("five", x.five(2, 4, 0, 3, 1), 1);
        x.set(0, 2, 4, -1);
        due("five 0", x.five(0, 1, 2, 3, 4), 0);
        due("five 0 in another order", x.five(0, 3, 2, 4, 1), 0);
        due("five 1", x.five(1, 0, 2, 3, 4), 1);
        due("five 2", x.five(2, 0, 1, 3, 4), 1);
        due("five 3", x.five(3, 0, 1, 2, 4), 1);
        due("five 4", x.five(4, 0, 1, 2, 3), 0);
        due("one twice", x.five(0, 1, 2, 3, 3), SignTriples.UNKNOWN);
        due("one twice", x.five(0, 1, 0, 3, 4), SignTriples.UNKNOWN);
        due("none", x.five(5, 1, 2, 3, 4), SignTriples.UNKNOWN);
        due("none", x.five(0, 1, 2, 3, -1), SignTriples.UNKNOWN);
        due("none", x.five(0, 1, 2, 3, 36), SignTriples.UNKNOWN);
        due("none", x.five(MIN, MIN, MIN, MIN, MIN), SignTriples.UNKNOWN);
        due("all nothing", told("signs 5 oooooooooo").five(0, 1, 2, 3, 4), 1);
        due("012 123 alone", told("signs 5 uooooouooo").five(0, 1, 2, 3, 4), 1);
        due("012 034 alone", told("signs 5 uoooouoooo").five(0, 1, 2, 3, 4), 0);
        due("014 023 alone", told("signs 5 oouuoooooo").five(0, 1, 2, 3, 4), 0);
        due("013 024 alone", told("signs 5 ouoouooooo").five(0, 1, 2, 3, 4), 0);
        due("012 034, 013 024", told("signs 5 uuoouuoooo").five(0, 1, 2, 3, 4), 1);
        due("four elements", told("signs 4 uuuu").five(0, 1, 2, 3, 4), SignTriples.UNKNOWN);
    }

    private static void promise20() {
        SignTriples x = new SignTriples();
        for (int what = 0; what < 4; what++) {
            due("is", x.is(what), 1);
        }
        due("is 4", x.is(4), SignTriples.OUTSIDE);
        due("is -1", x.is(-1), SignTriples.OUTSIDE);
        due("is MIN", x.is(MIN), SignTriples.OUTSIDE);
        SignTriples none = told("signs 4 oooo");
        due("no base: exchange", none.is(0), 0);
        due("no base: orderly", none.is(1), 0);
        due("no base: drawn", none.is(2), 0);
        due("no base: all bases", none.is(3), 0);
        SignTriples two = told("signs 6 uooooooooooooooooood");
        due("bases far from each other", two.is(0), 0);
        due("orderly", two.is(1), 0);
        SignTriples bad = told("signs 5 uuuuduuuuu");
        due("exchange", bad.is(0), 1);
        due("a five that is not good", bad.is(1), 0);
        due("drawn", bad.is(2), 0);
        for (int t = 0; t < 20; t++) {
            String word = "uuuuuuuuuuuuuuuuuuuu".substring(0, t) + "o" + "uuuuuuuuuuuuuuuuuuuu".substring(t + 1);
            due("drawn but one", told("signs 6 " + word).is(2), 0);
            due("all bases but one", told("signs 6 " + word).is(3), 0);
        }
        due("all bases", bad.is(3), 1);
        SignTriples flat = told("signs 4 uuuu;point 3 0 1 1;draw");
        due("drawn", flat.is(2), 1);
        due("exchange", flat.is(0), 1);
        flat.place(3, 1, 0, 0);
        due("another point", flat.is(2), 0);
        flat.draw();
        due("drawn", flat.is(2), 1);
        due("orderly", flat.is(1), 1);
        due("all bases", flat.is(3), 0);
        SignTriples noExchange = told("signs 5 uoooouoooo");
        due("012 and 034 alone", noExchange.is(0), 0);
    }

    private static void promise21() {
        SignTriples x = new SignTriples();
        dues("cocircuits", vectors(x, 0), "+00 0+0 00+ 00- 0-0 -00 ");
        dues("circuits", vectors(x, 1), "");
        dues("topes", vectors(x, 3), "+++ ++- +-+ +-- -++ -+- --+ --- ");
        due("covectors", x.vector(2, -1, 0), 27);
        due("how many, of no element", x.vector(2, -1, MIN), 27);
        due("kind 4", x.vector(4, 0, 0), SignTriples.OUTSIDE);
        due("kind -1", x.vector(-1, -1, 0), SignTriples.OUTSIDE);
        due("k -2", x.vector(3, -2, 0), SignTriples.OUTSIDE);
        due("k MIN", x.vector(3, MIN, 0), SignTriples.OUTSIDE);
        due("k 8", x.vector(3, 8, 0), SignTriples.UNKNOWN);
        due("k MAX", x.vector(3, MAX, 0), SignTriples.UNKNOWN);
        due("element 3", x.vector(3, 0, 3), SignTriples.UNKNOWN);
        due("element -1", x.vector(0, 0, -1), SignTriples.UNKNOWN);
        due("no circuit", x.vector(1, 0, 0), SignTriples.UNKNOWN);
        SignTriples bad = told("signs 5 uuuuduuuuu");
        due("not orderly, kind 2", bad.vector(2, -1, 0), SignTriples.NOT);
        due("not orderly, kind 3", bad.vector(3, 0, 9), SignTriples.NOT);
        due("not orderly, k -2", bad.vector(3, -2, 9), SignTriples.OUTSIDE);
        due("not orderly, kind 0", bad.vector(0, -1, 0), 20);
        due("not orderly, kind 1", bad.vector(1, -1, 0), 10);
        due("no base", told("signs 3 o").vector(0, -1, 0), 0);
        due("no base", told("signs 3 o").vector(2, -1, 0), SignTriples.NOT);
    }

    private static void promise21Order() {
        SignTriples x = told("signs 4 uuuu");
        dues("cocircuits", vectors(x, 0), "++00 +00+ +0-0 0++0 0+0- 00++ 00-- 0-0+ 0--0 -0+0 -00- --00 ");
        dues("circuits", vectors(x, 1), "+-+- -+-+ ");
        dues("topes: all but the circuits", vectors(x, 3),
            "++++ +++- ++-+ ++-- +-++ +--+ +--- -+++ -++- -+-- --++ --+- ---+ ---- ");
        due("covectors", x.vector(2, -1, 0), 51);
        SignTriples loop = told("signs 4 uooo");
        dues("cocircuits with a loop", vectors(loop, 0), "+000 0+00 00+0 00-0 0-00 -000 ");
        dues("a loop's circuit", vectors(loop, 1), "000+ 000- ");
        dues("topes with a loop", vectors(loop, 3), "+++0 ++-0 +-+0 +--0 -++0 -+-0 --+0 ---0 ");
        SignTriples pair = told("signs 4 uuoo");
        dues("cocircuits with a pair", vectors(pair, 0), "+000 0+00 00++ 00-- 0-00 -000 ");
        dues("a pair's circuit", vectors(pair, 1), "00+- 00-+ ");
        SignTriples five = told("signs 5 uuuuuuuuuu");
        dues("circuits of five", vectors(five, 1),
            "+0-+- +-+0- +-+-0 +-0+- 0+-+- 0-+-+ -+0-+ -+-+0 -+-0+ -0+-+ ");
        due("seen at once after a deed", pair.flip(3), 1);
        dues("cocircuits, one flipped", vectors(pair, 0), "+000 0+00 00+- 00-+ 0-00 -000 ");
        dues("a pair's circuit, one flipped", vectors(pair, 1), "00++ 00-- ");
        pair.undo();
        dues("cocircuits, undone", vectors(pair, 0), "+000 0+00 00++ 00-- 0-00 -000 ");
    }

    /** What was found is found anew, whatever the signs became others by. */
    private static void promise21Anew() {
        SignTriples x = told("signs 4 uuuu");
        x.keep(0);
        for (int kind = 0; kind < 4; kind++) {
            findAll(x, 14, 4, 75);
            x.set(1, 2, 3, 0);
            findAll(x, 12, 3, x.extensions());
            x.undo();
            findAll(x, 14, 4, 75);
            x.drop(kind);
            findAll(x, 8, 1, 27);
            x.add(1, 1, 1);
            findAll(x, x.vector(3, -1, 0), x.mutation(-1), x.extensions());
            x.back(0);
            findAll(x, 14, 4, 75);
            x.place(1, 1, 0, 0);
            x.draw();
            findAll(x, 8, 2, x.extensions());
            x.back(0);
            findAll(x, 14, 4, 75);
        }
        x.drop(0);
        findAll(x, 8, 1, 27);
        write(x, "signs 4 uuuu");
        x.tell();
        findAll(x, 14, 4, 75);
        write(x, "signs 3 o");
        x.tell();
        findAll(x, SignTriples.NOT, SignTriples.NOT, SignTriples.NOT);
    }

    private static void findAll(SignTriples x, int topes, int mutations, int extensions) {
        due("topes, after others", x.vector(3, -1, 0), topes);
        due("mutations, after others", x.mutation(-1), mutations);
        due("extensions, after others", x.extensions(), extensions);
        due("farthest, after others", topes < 0 ? topes : x.between(0, topes - 1, 2) > 2 ? topes : 0, topes);
        due("orderly, after others", x.is(1), topes < 0 ? 0 : 1);
    }

    private static void promise22() {
        SignTriples x = new SignTriples();
        for (int tope = 0; tope < 8; tope++) {
            due("beside", x.beside(tope), 3);
        }
        due("beside 8", x.beside(8), SignTriples.UNKNOWN);
        due("beside -1", x.beside(-1), SignTriples.UNKNOWN);
        due("beside MIN", x.beside(MIN), SignTriples.UNKNOWN);
        due("beside MAX", x.beside(MAX), SignTriples.UNKNOWN);
        SignTriples six = told("signs 6 uuuuuuuuuuuuuuuuuuuu");
        int all = 0;
        for (int tope = 0; tope < 32; tope++) {
            all += six.beside(tope);
        }
        due("two sides of each of 60 edges", all, 120);
        due("the foremost one", six.beside(0), 6);
        SignTriples pair = told("signs 4 uuoo");
        due("beside, with a pair", pair.beside(0), 3);
        due("beside, not orderly", told("signs 3 o").beside(0), SignTriples.NOT);
        due("beside, not orderly", told("signs 3 o").beside(-1), SignTriples.NOT);
    }

    private static void promise23() {
        SignTriples x = new SignTriples();
        due("separate", x.between(0, 3, 0), 2);
        due("next", x.between(0, 3, 1), 0);
        due("steps", x.between(0, 3, 2), 2);
        due("separate", x.between(0, 4, 0), 1);
        due("next", x.between(0, 4, 1), 1);
        due("next", x.between(4, 0, 1), 1);
        due("steps", x.between(0, 4, 2), 1);
        due("itself", x.between(5, 5, 0), 0);
        due("not next to itself", x.between(5, 5, 1), 0);
        due("itself", x.between(5, 5, 2), 0);
        due("what 3", x.between(0, 0, 3), SignTriples.OUTSIDE);
        due("what -1", x.between(9, 0, -1), SignTriples.OUTSIDE);
        due("what MIN", x.between(0, 9, MIN), SignTriples.OUTSIDE);
        due("tope 8", x.between(8, 0, 0), SignTriples.UNKNOWN);
        due("tope -1", x.between(0, -1, 1), SignTriples.UNKNOWN);
        due("tope MAX", x.between(0, MAX, 2), SignTriples.UNKNOWN);
        SignTriples bad = told("signs 3 o");
        due("not orderly", bad.between(0, 0, 0), SignTriples.NOT);
        due("not orderly", bad.between(-1, 0, 2), SignTriples.NOT);
        due("not orderly", bad.between(0, 0, 3), SignTriples.OUTSIDE);
        SignTriples pair = told("signs 4 uuoo");
        due("topes apart by a pair", pair.between(0, 1, 0), 2);
        due("next by a pair", pair.between(0, 1, 1), 1);
        due("one step by a pair", pair.between(0, 1, 2), 1);
        due("the farthest", pair.between(0, 7, 0), 4);
        due("steps to the farthest", pair.between(0, 7, 2), 3);
        SignTriples six = told("signs 6 uuuuuuuuuuuuuuuuuuuu");
        due("steps to the opposite", six.between(0, 31, 2), 6);
        due("steps to the opposite", six.between(13, 18, 2), 6);
        due("separate", six.between(13, 18, 0), 6);
    }

    private static void promise24() {
        SignTriples x = told("signs 5 uuuuuuuuuu");
        due("how many", x.mutation(-1), 5);
        int[] mutations = {1, 0, 1, 0, 0, 1, 1, 0, 0, 1};
        for (int t = 0; t < 10; t++) {
            due("mutation " + t, x.mutation(t), mutations[t]);
        }
        due("triple 10", x.mutation(10), SignTriples.UNKNOWN);
        due("triple -2", x.mutation(-2), SignTriples.UNKNOWN);
        due("triple MIN", x.mutation(MIN), SignTriples.UNKNOWN);
        due("triple MAX", x.mutation(MAX), SignTriples.UNKNOWN);
        dues("nothing changes", signs(x), "uuuuuuuuuu");
        due("nothing changes", x.undo(), SignTriples.NOT);
        SignTriples pair = told("signs 4 uuoo");
        due("a base", pair.mutation(0), 1);
        due("no base", pair.mutation(2), 0);
        due("how many", pair.mutation(-1), 2);
        due("triple 4", pair.mutation(4), SignTriples.UNKNOWN);
        SignTriples bad = told("signs 5 uuuuduuuuu");
        due("not orderly", bad.mutation(-1), SignTriples.NOT);
        due("not orderly", bad.mutation(-5), SignTriples.NOT);
    }

    private static void promise25() {
        due("of three", new SignTriples().extensions(), 27);
        SignTriples four = told("signs 4 uuuu");
        due("of four", four.extensions(), 75);
        dues("nothing changes", signs(four), "uuuu");
        due("nothing changes", four.count(0), 4);
        due("again", four.extensions(), 75);
        four.set(1, 2, 3, 0);
        due("of four, one loose", four.extensions() == 75 ? 1 : 0, 0);
        due("of five", told("signs 5 uuuuuuuuuu").extensions(), SignTriples.NOT);
        due("not orderly", told("signs 3 o").extensions(), SignTriples.NOT);
        SignTriples x = told("signs 4 uuuu;point 3 0 0 0");
        due("points do not matter", x.extensions(), 75);
        due("a fourth is there in as many ways as there are", told("signs 4 uooo").extensions(), 27);
    }

    private static void promise26() {
        SignTriples x = new SignTriples();
        due("box 0", x.box(0, 0, 6), 6);
        due("box 1", x.box(1, 1, 1), 1);
        due("box 2", x.box(2, 1, 0), 0);
        due("no place", x.lay(2, 0, 3, 0), SignTriples.INDEX);
        due("six places", x.lay(0, 5, 3, 0), 0);
        due("box 3", x.box(3, 9, 9), SignTriples.UNKNOWN);
        due("box -1", x.box(-1, 0, -1), SignTriples.UNKNOWN);
        due("box MIN", x.box(MIN, 0, 1), SignTriples.UNKNOWN);
        due("sort 2", x.box(0, 2, -1), SignTriples.OUTSIDE);
        due("sort -1", x.box(0, -1, 1), SignTriples.OUTSIDE);
        due("n 7", x.box(0, 0, 7), SignTriples.OUTSIDE);
        due("n MAX", x.box(0, 0, MAX), SignTriples.OUTSIDE);
        due("n -1", x.box(0, 0, -1), SignTriples.SIZE);
        due("n MIN", x.box(0, 1, MIN), SignTriples.SIZE);
        due("refused: the box stays", x.count(8), 1);
        due("a new one", x.box(0, 0, 6), 6);
        due("a new one is empty", x.seen(0, 5, 0), SignTriples.EMPTY);
        due("vectors", x.count(8), 0);
        due("another sort", x.lay(0, 0, 0, 0), 2);
        x.box(0, 1, 6);
        due("another sort", x.lay(0, 0, 0, 0), SignTriples.STORE);
    }

    private static void promise27() {
        SignTriples x = told("signs 4 uuuu");
        due("missing", x.lay(0, 0, 0, 0), SignTriples.NULL);
        x.box(0, 0, 2);
        x.box(1, 1, 2);
        due("a cocircuit", x.lay(0, 0, 0, 0), 2);
        due("a circuit", x.lay(0, 1, 1, 1), 0);
        due("its number", x.seen(0, 1, 0), -1);
        due("the covector of zeros", x.lay(0, 1, 2, 25), 4);
        due("a tope", x.lay(0, 1, 3, 13), 0);
        due("made for full ones", x.lay(1, 0, 0, 0), SignTriples.STORE);
        due("a full circuit", x.lay(1, 0, 1, 0), 0);
        due("a full covector", x.lay(1, 1, 2, 0), 0);
        due("place 2", x.lay(1, 2, 0, 0), SignTriples.INDEX);
        due("place -1", x.lay(0, -1, 0, 0), SignTriples.INDEX);
        due("place MIN", x.lay(0, MIN, 0, 0), SignTriples.INDEX);
        due("box 2 missing, place 9", x.lay(2, 9, 0, 0), SignTriples.NULL);
        due("box 3", x.lay(3, 0, 0, 0), SignTriples.UNKNOWN);
        due("box -1", x.lay(-1, 0, 0, 0), SignTriples.UNKNOWN);
        due("vector -1", x.lay(0, 0, 0, -1), SignTriples.UNKNOWN);
        due("vector 12", x.lay(2, 0, 0, 12), SignTriples.UNKNOWN);
        due("kind 4", x.lay(3, 0, 4, 0), SignTriples.OUTSIDE);
        due("kind -1", x.lay(0, 0, -1, 0), SignTriples.OUTSIDE);
        x.set(0, 1, 2, 0);
        x.set(0, 1, 3, 0);
        x.set(0, 2, 3, 0);
        x.set(1, 2, 3, 0);
        due("not orderly", x.lay(3, 0, 3, 0), SignTriples.NOT);
        due("not orderly", x.lay(0, 0, 2, 0), SignTriples.NOT);
        due("kind MAX", x.lay(0, 0, MAX, 0), SignTriples.OUTSIDE);
        due("no cocircuit", x.lay(0, 0, 0, 0), SignTriples.UNKNOWN);
        due("as it was when it came", x.seen(0, 0, 0), 1);
        due("vectors", x.count(8), 4);
    }

    private static void promise28() {
        SignTriples x = told("signs 4 uuuu");
        due("missing", x.compose(0, 9, 9), SignTriples.NULL);
        x.box(0, 0, 4);
        due("empty", x.compose(0, 0, 0), SignTriples.EMPTY);
        x.lay(0, 0, 0, 0);
        x.lay(0, 1, 0, 9);
        due("empty j", x.compose(0, 0, 2), SignTriples.EMPTY);
        due("empty i", x.compose(0, 2, 0), SignTriples.EMPTY);
        due("no place, empty", x.compose(0, 2, 4), SignTriples.INDEX);
        due("no place, empty", x.compose(0, -1, 2), SignTriples.INDEX);
        due("no place", x.compose(0, 0, MAX), SignTriples.INDEX);
        due("box 3", x.compose(3, 0, 0), SignTriples.UNKNOWN);
        due("box MIN", x.compose(MIN, 0, 0), SignTriples.UNKNOWN);
        due("with itself", x.compose(0, 0, 0), 2);
        due("++00 with -0+0", x.compose(0, 0, 1), 1);
        due("its numbers", x.seen(0, 0, 0), 1);
        due("its numbers", x.seen(0, 0, 1), 1);
        due("its numbers", x.seen(0, 0, 2), 1);
        due("its numbers", x.seen(0, 0, 3), 0);
        due("the other one stays", x.seen(0, 1, 1), 0);
        due("-0+0 with +++0", x.compose(0, 1, 0), 1);
        due("its own first", x.seen(0, 1, 0), -1);
        x.add(0, 0, 1);
        x.lay(0, 2, 3, 0);
        due("of unlike many", x.compose(0, 0, 2), SignTriples.OTHER);
        due("of unlike many", x.compose(0, 2, 0), SignTriples.OTHER);
        due("nothing changes", x.seen(0, 0, 3), 0);
        x.drop(0);
        due("old ones still", x.compose(0, 0, 1), 1);
    }

    private static void promise29() {
        SignTriples x = told("signs 4 uuuu");
        due("missing", x.seen(0, 9, 9), SignTriples.NULL);
        x.box(0, 0, 2);
        x.lay(0, 0, 0, 1);
        due("seen 0", x.seen(0, 0, 0), 1);
        due("seen 1", x.seen(0, 0, 1), 0);
        due("seen 2", x.seen(0, 0, 2), 0);
        due("seen 3", x.seen(0, 0, 3), 1);
        x.lay(0, 0, 0, 10);
        due("seen 3", x.seen(0, 0, 3), -1);
        due("element 4", x.seen(0, 0, 4), SignTriples.OUTSIDE);
        due("element -1", x.seen(0, 0, -1), SignTriples.OUTSIDE);
        due("element MIN", x.seen(0, 0, MIN), SignTriples.OUTSIDE);
        due("empty", x.seen(0, 1, 9), SignTriples.EMPTY);
        due("no place", x.seen(0, 2, 9), SignTriples.INDEX);
        due("no place", x.seen(0, MIN, 9), SignTriples.INDEX);
        due("box 3", x.seen(3, 0, 0), SignTriples.UNKNOWN);
        due("box -1", x.seen(-1, 9, 9), SignTriples.UNKNOWN);
        x.flip(3);
        due("as it was when it came", x.seen(0, 0, 3), -1);
        x.drop(3);
        due("of elements that there were", x.seen(0, 0, 3), -1);
        x.lay(0, 1, 3, 0);
        due("of three", x.seen(0, 1, 3), SignTriples.OUTSIDE);
    }

    private static void promise30() {
        SignTriples x = told("signs 4 uuuu");
        due("missing", x.find(0, 9, 0), SignTriples.NULL);
        x.box(0, 0, 3);
        x.lay(0, 0, 3, 13);
        x.lay(0, 1, 0, 7);
        due("of topes", x.find(0, 0, 3), 13);
        due("of covectors", x.find(0, 0, 2), 50);
        due("of cocircuits", x.find(0, 0, 0), SignTriples.NONE);
        due("of circuits", x.find(0, 0, 1), SignTriples.NONE);
        due("of cocircuits", x.find(0, 1, 0), 7);
        x.lay(0, 2, 0, 0);
        due("the first one", x.find(0, 2, 0), 0);
        x.lay(0, 2, 0, 11);
        due("the last one", x.find(0, 2, 0), 11);
        x.box(2, 0, 1);
        due("empty", x.find(2, 0, 0), SignTriples.EMPTY);
        due("no place", x.find(0, 3, 0), SignTriples.INDEX);
        due("no place", x.find(0, MIN, 0), SignTriples.INDEX);
        due("kind 4", x.find(1, 0, 4), SignTriples.OUTSIDE);
        due("kind -1", x.find(0, 3, -1), SignTriples.OUTSIDE);
        due("box 3", x.find(3, 0, 9), SignTriples.UNKNOWN);
        due("box -1", x.find(-1, 0, 0), SignTriples.UNKNOWN);
        x.set(0, 1, 2, 0);
        x.set(1, 2, 3, 0);
        x.set(0, 1, 3, 0);
        x.set(0, 2, 3, 0);
        due("not orderly", x.find(0, 0, 3), SignTriples.NOT);
        due("not orderly", x.find(1, 9, 2), SignTriples.NOT);
        due("not orderly, kind 9", x.find(0, 0, 9), SignTriples.OUTSIDE);
        due("none there", x.find(0, 1, 0), SignTriples.NONE);
        x.undo();
        x.undo();
        x.undo();
        x.undo();
        x.drop(3);
        due("of another number of elements", x.find(0, 0, 3), SignTriples.NONE);
        due("of another number of elements", x.find(0, 1, 0), SignTriples.NONE);
    }

    private static void promise31() {
        SignTriples x = new SignTriples();
        due("missing", x.away(0), SignTriples.NULL);
        x.box(0, 0, 6);
        due("empty", x.away(0), 0);
        due("missing", x.away(0), SignTriples.NULL);
        x.box(0, 0, 0);
        due("without places", x.away(0), 0);
        x.box(0, 0, 6);
        x.lay(0, 1, 0, 0);
        x.lay(0, 4, 0, 0);
        x.lay(0, 4, 0, 1);
        due("two", x.away(0), 2);
        due("none left", x.count(8), 0);
        due("missing", x.seen(0, 1, 0), SignTriples.NULL);
        due("box 3", x.away(3), SignTriples.UNKNOWN);
        due("box -1", x.away(-1), SignTriples.UNKNOWN);
        due("box MIN", x.away(MIN), SignTriples.UNKNOWN);
    }

    private static void promise32() {
        SignTriples x = told("signs 6 uuuuuuuuuuuuuuuuuuuu");
        int[] due = {6, 20, 20, 0, 0, 0, 0, 0, 0};
        for (int what = 0; what < 9; what++) {
            due("count " + what, x.count(what), due[what]);
        }
        due("count 9", x.count(9), SignTriples.OUTSIDE);
        due("count -1", x.count(-1), SignTriples.OUTSIDE);
        due("count MIN", x.count(MIN), SignTriples.OUTSIDE);
        x.set(0, 2, 4, -1);
        due("bad fives", x.count(3), 6);
        x.set(0, 2, 4, 0);
        due("bases", x.count(2), 19);
        due("triples of 5", told("signs 5 uuuuuuuuuu").count(1), 10);
        SignTriples loop = told("signs 5 uooooooooo");
        due("loops", loop.count(4), 24);
        due("no pairs of loops", loop.count(5), 0);
        SignTriples pairs = told("signs 5 uuuooooooo");
        due("no loops", pairs.count(4), 0);
        due("pairs of 2, 3, 4", pairs.count(5), 3);
        due("no base: all loops", told("signs 6 oooooooooooooooooooo").count(4), 63);
        due("no base: no pairs", told("signs 6 oooooooooooooooooooo").count(5), 0);
        x.write('a');
        x.write('b');
        due("letters", x.count(7), 2);
        due("undoable", x.count(6), 2);
        x.box(0, 0, 3);
        x.box(2, 0, 3);
        x.lay(0, 1, 0, 0);
        x.lay(2, 0, 0, 0);
        x.lay(2, 2, 0, 0);
        due("vectors", x.count(8), 3);
    }
}
