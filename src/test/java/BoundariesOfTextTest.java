/** Each sentence on THE TEXT that names a boundary case, from "Terms" and promises 2 to 5, by a test of its own. */
public final class BoundariesOfTextTest {
    private static final int NONE = SignTriples.NONE;
    private static final int OUTSIDE = SignTriples.OUTSIDE;
    private static final int NOT = SignTriples.NOT;
    private static final int FULL = SignTriples.FULL;

    public static void main(String[] args) {
        Dues.runAll(Tests.class);
    }

    /** A text's fault, and that tell goes by it. */
    private static void faultOf(String text, int want) {
        SignTriples x = Made.written(text);
        faultIn(x, text, want);
    }

    private static void faultIn(SignTriples x, String text, int want) {
        Dues.due("fault of '" + text + "'", x.fault(), want);
        Dues.due("tell of '" + text + "'", x.tell() >= 0 ? 1 : 0, want == NONE ? 1 : 0);
    }

    /** Six elements are there, when the text comes. */
    private static void faultAtSix(String text, int want) {
        SignTriples x = Made.allUp(6);
        Made.write(x, text);
        faultIn(x, text, want);
    }

    private static void fill(SignTriples x, String text, int letters) {
        Made.write(x, text);
        for (int i = text.length(); i < letters; i++) {
            x.write(' ');
        }
    }

    static final class Tests {
        // ---- letters: promises 2 and 3

        static void theTextHas200LettersAtMost() {
            Dues.sentence("THE TEXT is a row of letters, 200 at most");
            SignTriples x = new SignTriples();
            for (int i = 1; i <= 200; i++) {
                Dues.due("letter " + i, x.write('a'), i);
            }
            Dues.due("letter 201", x.write('a'), FULL);
            Dues.due("letters", x.count(7), 200);
        }

        static void aTextOf200LettersIsRead() {
            Dues.sentence("THE TEXT is a row of letters, 200 at most");
            String last = ";flip 0";
            SignTriples x = new SignTriples();
            Made.write(x, "draw" + " ".repeat(200 - 4 - last.length()) + last);
            Dues.due("letters", x.count(7), 200);
            Dues.due("fault", x.fault(), NONE);
            Dues.due("tell", x.tell(), 2);
            Dues.due("the last clause is done", x.sign(0, 1, 2), -1);
        }

        static void writeAtFullChangesNothing() {
            Dues.sentence("Refused, and nothing changes");
            SignTriples x = new SignTriples();
            fill(x, "draw", 200);
            x.write('x');
            Dues.due("fault of the 200", x.fault(), NONE);
            Dues.due("tell", x.tell(), 1);
            Dues.due("room again", x.write('x'), 1);
        }

        static void aLetterIsFrom0To255() {
            Dues.sentence("A letter (its number, 0 .. 255) more of THE TEXT");
            SignTriples x = new SignTriples();
            Dues.due("write -1", x.write(-1), OUTSIDE);
            Dues.due("write 256", x.write(256), OUTSIDE);
            Dues.due("write MIN", x.write(Dues.MIN), OUTSIDE);
            Dues.due("write MAX", x.write(Dues.MAX), OUTSIDE);
            Dues.due("letters", x.count(7), 0);
            Dues.due("write 0", x.write(0), 1);
            Dues.due("write 255", x.write(255), 2);
            Dues.due("letters", x.count(7), 2);
        }

        static void aLetterIsNotTakenModulo256() {
            Dues.sentence("A letter (its number, 0 .. 255) more of THE TEXT");
            SignTriples x = new SignTriples();
            Dues.due("write 'd' and 256", x.write('d' + 256), OUTSIDE);
            Dues.due("write 'd' less 256", x.write('d' - 256), OUTSIDE);
            Dues.due("letters", x.count(7), 0);
        }

        static void outsideGoesAheadOfFull() {
            Dues.sentence("OUTSIDE; FULL.");
            SignTriples x = new SignTriples();
            fill(x, "", 200);
            Dues.due("write 256", x.write(256), OUTSIDE);
            Dues.due("write -1", x.write(-1), OUTSIDE);
            Dues.due("write 255", x.write(255), FULL);
            Dues.due("write 0", x.write(0), FULL);
        }

        static void eraseTellsHowManyThereWere() {
            Dues.sentence("THE TEXT is empty: how many letters it had.");
            SignTriples x = new SignTriples();
            Dues.due("erase of none", x.erase(), 0);
            x.write('a');
            Dues.due("erase of one", x.erase(), 1);
            Dues.due("erase again", x.erase(), 0);
            fill(x, "", 200);
            Dues.due("erase of all", x.erase(), 200);
            Dues.due("letters", x.count(7), 0);
            fill(x, "draw", 200);
            Dues.due("as many again", x.count(7), 200);
            Dues.due("the new ones are read", x.fault(), NONE);
        }

        static void erasedLettersAreNotRead() {
            Dues.sentence("THE TEXT is empty: how many letters it had.");
            SignTriples x = Made.written("draw;draw");
            x.erase();
            Dues.due("fault", x.fault(), 0);
            Made.write(x, "draw;");
            Dues.due("fault", x.fault(), 5);
        }

        // ---- clauses

        static void theTextHasOneClauseAtLeast() {
            Dues.sentence("1 to 24 CLAUSES");
            faultOf("", 0);
            faultOf(" ", 1);
            faultOf(" ".repeat(200), 200);
            faultOf("draw", NONE);
            Dues.due("tell", Made.written("draw").tell(), 1);
        }

        static void theTextHas24ClausesAtMost() {
            Dues.sentence("1 to 24 CLAUSES");
            String of23 = "draw;".repeat(22) + "draw";
            faultOf(of23, NONE);
            faultOf(of23 + ";draw", NONE);
            faultOf(of23 + ";draw   ", NONE);
            faultOf(of23 + ";draw;draw", 119);
            Dues.due("tell 23", Made.written(of23).tell(), 23);
            Dues.due("tell 24", Made.written(of23 + ";draw").tell(), 24);
        }

        static void the24thClauseIsDone() {
            Dues.sentence("1 to 24 CLAUSES");
            Dues.due("23 flips", Made.told("flip 0;".repeat(22) + "flip 0").sign(0, 1, 2), -1);
            Dues.due("24 flips", Made.told("flip 0;".repeat(23) + "flip 0").sign(0, 1, 2), 1);
        }

        static void theSemicolonBehindThe24thIsAFault() {
            Dues.sentence("the ; behind a 24th CLAUSE");
            String of24 = "draw;".repeat(23) + "draw";
            faultOf(of24 + ";", 119);
            faultOf(of24 + "  ;", 121);
            faultOf(of24 + ";x", 119);
            faultOf(of24 + "x", 115);
            faultOf(of24 + " x", 120);
            faultOf("draw;".repeat(22) + "draw;", 115);
        }

        static void clausesHaveSemicolonsBetween() {
            Dues.sentence("1 to 24 CLAUSES with ; between");
            faultOf(";", 0);
            faultOf(";draw", 0);
            faultOf("draw;", 5);
            faultOf("draw ; ", 7);
            faultOf("draw;;draw", 5);
            faultOf("draw draw", 5);
            faultOf("flip 0 flip 1", 7);
            faultOf("flip 0flip 1", 6);
            faultOf("draw,draw", 4);
            faultOf("draw:draw", 4);
            faultOf("draw<draw", 4);
            faultOf("draw;draw", NONE);
        }

        static void clausesAreAsWrittenWithoutPoints() {
            Dues.sentence("each is one of: signs N W. point E X Y Z. flip E. swap E F. draw. (As written here, without points");
            faultOf("signs 3 u", NONE);
            faultOf("point 0 1 2 3", NONE);
            faultOf("flip 0", NONE);
            faultOf("swap 0 1", NONE);
            faultOf("draw", NONE);
            faultOf("draw.", 4);
            faultOf("signs 3 u.", 9);
            faultOf("turn 0", 0);
            faultOf("0", 0);
            faultOf("-", 0);
        }

        static void aWordIsWhole() {
            Dues.sentence("each is one of: signs N W. point E X Y Z. flip E. swap E F. draw.");
            String[] words = {"signs", "point", "flip", "swap", "draw"};
            for (String word : words) {
                for (int cut = 1; cut < word.length(); cut++) {
                    faultOf(word.substring(0, cut), 0);
                    faultOf("draw;" + word.substring(0, cut), 5);
                }
                faultOf(word + "s 0", 0);
                faultOf("s" + word + " 0", 0);
                faultOf(word.substring(0, word.length() - 1) + "z", 0);
                faultOf("z" + word.substring(1), 0);
            }
        }

        static void nothingMoreStandsBehindAClause() {
            Dues.sentence("A FAULT is at the first TOKEN");
            faultOf("signs 3 u u", 10);
            faultOf("signs 3 u 0", 10);
            faultOf("point 0 1 2 3 4", 14);
            faultOf("point 0 1 2 3 -", 14);
            faultOf("flip 0 1", 7);
            faultOf("swap 0 1 2", 9);
            faultOf("draw 0", 5);
        }

        // ---- signs N W

        static void elementsOfSignsAre3To6() {
            Dues.sentence("signs: N ELEMENTS (3 .. 6)");
            faultOf("signs 0 o", 6);
            faultOf("signs 1 o", 6);
            faultOf("signs 2 o", 6);
            faultOf("signs 3 u", NONE);
            faultOf("signs 4 uuuu", NONE);
            faultOf("signs 5 uuuuuuuuuu", NONE);
            faultOf("signs 6 uuuuuuuuuuuuuuuuuuuu", NONE);
            faultOf("signs 7 " + "u".repeat(35), 6);
            faultOf("signs 99 u", 6);
            for (int n = 3; n <= 6; n++) {
                Dues.due("elements", Made.allUp(n).count(0), n);
            }
        }

        static void aWordHasAsManyLettersAsThereAreTriples() {
            Dues.sentence("a word of as many letters as there are TRIPLES");
            for (int n = 3; n <= 6; n++) {
                int triples = Made.triples(n);
                faultOf("signs " + n + " " + "u".repeat(triples), NONE);
                faultOf("signs " + n + " " + "u".repeat(triples + 1), 8);
                faultOf("signs " + n + " " + "u".repeat(triples + 1) + ";draw", 8);
                if (triples > 1) {
                    faultOf("signs " + n + " " + "u".repeat(triples - 1), 8);
                }
                faultOf("signs " + n, 7);
                faultOf("signs " + n + ";", 7);
            }
            faultOf("signs 4 u", 8);
        }

        static void aWordIsOneToken() {
            Dues.sentence("a word of as many letters as there are TRIPLES");
            faultOf("signs 4 uu uu", 8);
            faultOf("signs 4 uuu u", 8);
            faultOf("signs 4 uuuu u", 13);
        }

        static void aWordHasUOAndDAlone() {
            Dues.sentence("a word W of other letters");
            for (char letter = 'a'; letter <= 'z'; letter++) {
                boolean told = letter == 'u' || letter == 'o' || letter == 'd';
                for (int place = 0; place < 4; place++) {
                    String word = "uuuu".substring(0, place) + letter + "uuuu".substring(place + 1);
                    faultOf("signs 4 " + word, told ? NONE : 8);
                }
                faultOf("signs 3 " + letter, told ? NONE : 8);
            }
            faultOf("signs 3 0", 8);
            faultOf("signs 3 U", 8);
            faultOf("signs 3 -", 8);
            faultOf("signs 4 uuUu", 8);
        }

        static void lettersOfAWordAreSigns() {
            Dues.sentence("u is 1, o is 0, d is -1");
            Dues.due("u", Made.told("signs 3 u").sign(0, 1, 2), 1);
            Dues.due("o", Made.told("signs 3 o").sign(0, 1, 2), 0);
            Dues.due("d", Made.told("signs 3 d").sign(0, 1, 2), -1);
        }

        static void lettersOfAWordGoByTheNumbersOfTriples() {
            Dues.sentence("SIGNS by W, a word of as many letters as there are TRIPLES, by their numbers");
            for (int n = 3; n <= 6; n++) {
                int t = 0;
                for (int a = 0; a < n; a++) {
                    for (int b = a + 1; b < n; b++) {
                        for (int c = b + 1; c < n; c++) {
                            String word = "o".repeat(t) + "d" + "o".repeat(Made.triples(n) - t - 1);
                            SignTriples x = Made.told("signs " + n + " " + word);
                            Dues.due("sign " + a + b + c, x.sign(a, b, c), -1);
                            Dues.due("bases", x.count(2), 1);
                            t++;
                        }
                    }
                }
            }
        }

        static void pointsOfSignsAreAsAtFirst() {
            Dues.sentence("signs: N ELEMENTS (3 .. 6), their POINTS as at first");
            String first = "1 0 0;1 1 1;1 2 4;1 3 9;1 4 16;1 5 25;";
            SignTriples x = new SignTriples();
            for (int e = 0; e < 3; e++) {
                x.place(e, 7, 7, e);
                x.add(9, 9, e);
            }
            for (int n = 6; n >= 3; n--) {
                Made.write(x, "signs " + n + " " + "o".repeat(Made.triples(n)));
                x.tell();
                Dues.due("points of " + n, Made.points(x), first.substring(0, new int[] {18, 24, 31, 38}[n - 3]));
            }
        }

        static void pointsAheadOfSignsAreGone() {
            Dues.sentence("signs: N ELEMENTS (3 .. 6), their POINTS as at first");
            SignTriples x = Made.told("point 0 5 5 5;signs 4 uuuu;point 1 6 6 6;signs 3 u;point 2 7 7 7");
            Dues.due("points", Made.points(x), "1 0 0;1 1 1;7 7 7;");
        }

        // ---- point, flip, swap: their elements

        static void elementsOfClausesGoFrom0ToTheLast() {
            Dues.sentence("point: E, an ELEMENT as told ahead");
            for (int n = 3; n <= 6; n++) {
                String signs = "signs " + n + " " + "u".repeat(Made.triples(n)) + ";";
                int at = signs.length();
                for (int e = 0; e < n; e++) {
                    faultOf(signs + "point " + e + " 0 0 0", NONE);
                    faultOf(signs + "flip " + e, NONE);
                    faultOf(signs + "swap " + e + " " + (e == 0 ? n - 1 : 0), NONE);
                    faultOf(signs + "swap " + (e == 0 ? n - 1 : 0) + " " + e, NONE);
                }
                faultOf(signs + "point " + n + " 0 0 0", at + 6);
                faultOf(signs + "flip " + n, at + 5);
                faultOf(signs + "swap " + n + " 0", at + 5);
                faultOf(signs + "swap 0 " + n, at + 7);
            }
            faultAtSix("flip 06", 5);
            faultAtSix("flip 10", 5);
            faultAtSix("flip 99", 5);
        }

        static void elementsAreThoseThatThereAreAtThatClause() {
            Dues.sentence("point: E, an ELEMENT as told ahead");
            faultAtSix("flip 5", NONE);
            faultAtSix("flip 5;signs 3 u", NONE);
            faultAtSix("signs 3 u;flip 5", 15);
            faultAtSix("signs 3 u;flip 3", 15);
            faultAtSix("signs 3 u;point 3 0 0 0", 16);
            faultAtSix("signs 3 u;swap 0 3", 17);
            faultAtSix("signs 3 u;flip 2", NONE);
            faultOf("flip 3;signs 4 uuuu", 5);
            faultOf("signs 4 uuuu;flip 3;signs 3 u;flip 3", 35);
            faultOf("signs 4 uuuu;flip 3;signs 3 u;signs 4 uuuu;flip 3", NONE);
        }

        static void elementsAreThoseAfterAddAndDrop() {
            Dues.sentence("what there was stays");
            SignTriples x = Made.written("flip 3");
            Dues.due("fault at three", x.fault(), 5);
            x.add(0, 0, 1);
            Dues.due("fault at four", x.fault(), NONE);
            x.drop(0);
            Dues.due("fault at three", x.fault(), 5);
            x.undo();
            Dues.due("fault at four", x.fault(), NONE);
        }

        static void aFaultyClauseOfSignsGivesNoElements() {
            Dues.sentence("A FAULT is at the first TOKEN");
            SignTriples x = Made.written("signs 6 uuu;flip 5");
            Dues.due("fault", x.fault(), 8);
            Dues.due("elements", x.count(0), 3);
            x.erase();
            Made.write(x, "flip 5");
            Dues.due("fault", x.fault(), 5);
        }

        static void swapHasAnotherElement() {
            Dues.sentence("F is another one than E");
            for (int e = 0; e < 6; e++) {
                faultAtSix("swap " + e + " " + e, 7);
                faultAtSix("swap " + e + " 0" + e, 7);
                faultAtSix("swap 0" + e + "  " + e + " ", 9);
                faultAtSix("swap " + e + " " + (e + 1) % 6, NONE);
            }
            faultOf("swap 1 1;x", 7);
        }

        static void swapsFirstElementIsLookedAtFirst() {
            Dues.sentence("A FAULT is at the first TOKEN");
            faultOf("swap 3 3", 5);
            faultOf("swap 3 0", 5);
            faultOf("swap 0 3", 7);
        }

        // ---- point: its numbers

        static void numbersOfAPointGoFrom0To99() {
            Dues.sentence("each number 0 .. 99");
            faultOf("point 0 0 0 0", NONE);
            faultOf("point 0 99 99 99", NONE);
            faultOf("point 0 100 0 0", 8);
            faultOf("point 0 0 100 0", 10);
            faultOf("point 0 0 0 100", 12);
            Dues.due("point", Made.pointOf(Made.told("point 1 0 99 10"), 1), "0 99 10");
            Dues.due("point", Made.pointOf(Made.told("point 1 99 9 0"), 1), "99 9 0");
        }

        static void numbersOfAPointMayHaveAMinus() {
            Dues.sentence("or - and such a number (two TOKENS)");
            faultOf("point 0 -99 -99 -99", NONE);
            faultOf("point 0 -100 0 0", 9);
            faultOf("point 0 0 -100 0", 11);
            faultOf("point 0 0 0 -100", 13);
            Dues.due("point", Made.pointOf(Made.told("point 1 -99 - 1 -0"), 1), "-99 -1 0");
            Dues.due("point", Made.pointOf(Made.told("point 1 1-2 3"), 1), "1 -2 3");
        }

        static void aMinusIsATokenOfItsOwn() {
            Dues.sentence("or - and such a number (two TOKENS)");
            faultOf("point 0 - 1 - 2 - 3", NONE);
            faultOf("point 0-1-2-3", NONE);
            faultOf("point 0 -   100 0 0", 12);
            faultOf("point 0 --1 0 0", 9);
            faultOf("point 0 - - 1 0 0", 10);
            faultOf("point 0 0 --1", 11);
            faultOf("point 0 0 0 --1", 13);
            faultOf("point 0 --1", 9);
            faultOf("point 0 0 0 -", 13);
            faultOf("point 0 0 0 -;", 13);
            faultOf("point 0 0 0 - ", 14);
            faultOf("point 0 0 0 -u", 13);
            faultOf("point 0 1 2-3", NONE);
            faultOf("point 0 1 2-3-4", 13);
            faultOf("point 0 +1 0 0", 8);
        }

        static void aMinusStandsAheadOfAPointsNumbersAlone() {
            Dues.sentence("point: E, an ELEMENT as told ahead, gets a POINT, each number 0 .. 99, or - and such a number");
            faultOf("point -0 1 2 3", 6);
            faultOf("flip -0", 5);
            faultOf("swap -0 1", 5);
            faultOf("swap 0 -1", 7);
            faultOf("signs -3 u", 6);
        }

        // ---- tokens

        static void numbersHave1Or2Digits() {
            Dues.sentence("numbers of 1 or 2 digits");
            faultOf("flip 0", NONE);
            faultOf("flip 00", NONE);
            faultOf("flip 000", 5);
            faultOf("flip 02", NONE);
            faultOf("flip 002", 5);
            faultOf("signs 03 u", NONE);
            faultOf("signs 003 u", 6);
            faultOf("swap 0 001", 7);
            faultOf("point 000 1 1 1", 6);
            faultOf("point 0 001 1 1", 8);
            faultOf("point 0 1 099 1", 10);
            faultOf("point 0 1 1 - 001", 14);
            faultOf("point 0 1 1 01", NONE);
            faultOf("point 0 4294967297 1 1", 8);
            faultOf("flip 4294967296", 5);
            faultOf("flip 18446744073709551616", 5);
        }

        static void numbersHaveAllDigits() {
            Dues.sentence("small letters a .. z, numbers of 1 or 2 digits");
            for (int number = 0; number <= 99; number++) {
                SignTriples x = Made.told("point 2 " + number + " -" + number + " 5");
                Dues.due("number", x.point(2, 0), number);
                Dues.due("number", x.point(2, 1), -number);
            }
        }

        static void aWordIsOfSmallLetters() {
            Dues.sentence("small letters a .. z");
            faultOf("Draw", 0);
            faultOf("draW", 0);
            faultOf("DRAW", 0);
            faultOf("FLIP 0", 0);
            faultOf("signs 3 U", 8);
            faultOf("drawz", 0);
            faultOf("drawa", 0);
            faultOf("draw`", 4);
            faultOf("draw{", 4);
            faultOf("drawA", 4);
            faultOf("drawZ", 4);
            faultOf("draw@", 4);
            faultOf("draw[", 4);
        }

        static void aRowOfLettersGoesOnToItsEnd() {
            Dues.sentence("A FAULT is at the first TOKEN (a row of small letters, a row of digits, any other letter)");
            faultOf("drawdraw", 0);
            faultOf("draw;flipflip 0", 5);
            faultOf("flip 0u", 6);
            faultOf("signs3uu", 6);
            faultOf("flipx 0", 0);
        }

        static void aRowOfDigitsGoesOnToItsEnd() {
            Dues.sentence("A FAULT is at the first TOKEN (a row of small letters, a row of digits, any other letter)");
            faultOf("flip 0/", 6);
            faultOf("flip 0:", 6);
            faultOf("flip 123", 5);
            faultOf("swap 012", 5);
            faultOf("flip /", 5);
            faultOf("flip :", 5);
        }

        static void anyOtherLetterIsATokenOfItsOwn() {
            Dues.sentence("A FAULT is at the first TOKEN (a row of small letters, a row of digits, any other letter)");
            for (int letter = 0; letter <= 255; letter++) {
                boolean small = letter >= 'a' && letter <= 'z';
                int want = letter == ' ' ? NONE : letter == ';' ? 5 : small ? 0 : 4;
                faultOf("draw" + (char) letter, want);
                boolean blank = letter == ' ';
                faultOf((char) letter + "draw", blank ? NONE : 0);
            }
        }

        static void aBlankIs32Alone() {
            Dues.sentence("blanks (32) may stand ahead of each TOKEN and behind the last");
            faultOf("flip" + (char) 32 + "0", NONE);
            int[] others = {0, 9, 10, 11, 12, 13, 31, 33, 95, 127, 133, 160, 255};
            for (int letter : others) {
                faultOf("flip" + (char) letter + "0", 4);
            }
        }

        static void blanksMayStandAheadOfEachToken() {
            Dues.sentence("blanks (32) may stand ahead of each TOKEN and behind the last");
            String text = "signs 3 d ; point 0 - 1 2 - 3 ; flip 0 ; swap 0 1 ; draw";
            for (int blanks = 1; blanks <= 3; blanks++) {
                String some = " ".repeat(blanks);
                faultOf(some + text.replace(" ", some) + some, NONE);
            }
        }

        static void blanksAreNeededOnlyWhereTwoRowsWouldBeOne() {
            Dues.sentence("needed only where two rows of letters, of digits would else be one");
            faultOf("signs3d;point0-1 2-3;flip0;swap0 1;draw", NONE);
            faultOf("point01 2 3", 11);
            faultOf("point 0 12 3", 12);
            faultOf("point0 123", 7);
            faultOf("swap01", 6);
            faultOf("swap0 1", NONE);
            faultOf("signs 3u", NONE);
            faultOf("signs3 u", NONE);
            faultOf("signsu 3", 0);
        }

        static void aBlankPartsATokenInTwo() {
            Dues.sentence("needed only where two rows of letters, of digits would else be one");
            faultOf("dr aw", 0);
            faultOf("flip 0 0", 7);
            faultOf("signs 4 uu uu", 8);
            faultOf("point 0 1 0 1 1", 14);
        }

        // ---- faults

        static void aTextThatEndsTooSoonHasItsFaultAtTheEnd() {
            Dues.sentence("or at the end, if it comes too soon");
            String[] clauses = {"signs 4 uuuu", "point 0 - 1 - 2 - 3", "point 0 1 2 3", "flip 0", "swap 0 1", "draw ;"};
            for (String clause : clauses) {
                String[] tokens = clause.split(" ");
                String soFar = "";
                for (int t = 0; t + 1 < tokens.length; t++) {
                    soFar = soFar + tokens[t];
                    boolean whole = soFar.equals("draw");
                    faultOf(soFar, whole ? NONE : soFar.length());
                    faultOf(soFar + "   ", whole ? NONE : soFar.length() + 3);
                    faultOf("draw;" + soFar, whole ? NONE : soFar.length() + 5);
                    soFar = soFar + " ";
                }
            }
            faultOf("draw;", 5);
            faultOf("draw; ", 6);
        }

        static void aTextOf200LettersThatEndsTooSoon() {
            Dues.sentence("or at the end, if it comes too soon");
            String[] begun = {"signs", "signs 4", "point", "point 0", "point 0 -", "point 0 1", "point 0 1 -", "point 0 1 2",
                "point 0 1 2 -", "flip", "swap", "swap 0", "draw;", ""};
            for (String text : begun) {
                faultOf(" ".repeat(200 - text.length()) + text, 200);
            }
            String[] whole = {"signs 3 u", "signs 4 uuuu", "point 0 1 2 3", "point 0 1 2 -99", "flip 0", "swap 0 1", "draw"};
            for (String text : whole) {
                faultOf(" ".repeat(200 - text.length()) + text, NONE);
            }
        }

        static void lettersOfALongerTextBeforeAreNotRead() {
            Dues.sentence("or at the end, if it comes too soon");
            String[] begun = {"signs", "signs 4", "point", "point 0", "point 0 1", "point 0 1 2", "flip", "swap", "swap 0", ""};
            String[] before = {"-", "0", "u", ";", " ", "- 1 - 1 - 1", "uuuu", ";draw"};
            for (String text : begun) {
                for (String old : before) {
                    SignTriples x = Made.written(text + old + old);
                    x.erase();
                    Made.write(x, text);
                    faultIn(x, text, text.length());
                }
            }
        }

        static void aClauseThatASemicolonEndsTooSoonHasItsFaultThere() {
            Dues.sentence("A FAULT is at the first TOKEN");
            faultOf("signs;", 5);
            faultOf("signs 4;", 7);
            faultOf("point;", 5);
            faultOf("point 0;", 7);
            faultOf("point 0 1;", 9);
            faultOf("point 0 1 2;", 11);
            faultOf("flip;", 4);
            faultOf("swap;", 4);
            faultOf("swap 0;", 6);
        }

        static void theFirstFaultIsTold() {
            Dues.sentence("A FAULT is at the first TOKEN");
            faultOf("flip 3;flip 4", 5);
            faultOf("flip 0;flip 4", 12);
            faultOf("signs 2 x", 6);
            faultOf("point 3 100 100 100", 6);
            faultOf("point 0 100 100 100", 8);
            faultOf("draw;flip 3;draw;;", 10);
        }

        static void theFaultIsTheLetterWithWhichTheTokenBegins() {
            Dues.sentence("The place of the FAULT (the letter with which the TOKEN begins, or the length); NONE.");
            faultOf("flip    77", 8);
            faultOf("signs 4 uuux", 8);
            faultOf("  drew", 2);
            faultOf("flip 0   draw", 9);
            faultOf("flip   ", 7);
            faultOf("draw   ", NONE);
        }

        static void aFaultAtTheLast200thLetter() {
            Dues.sentence("The place of the FAULT (the letter with which the TOKEN begins, or the length); NONE.");
            faultOf("draw" + " ".repeat(195) + "x", 199);
            faultOf("draw" + " ".repeat(195) + ";", 200);
            faultOf("draw" + " ".repeat(196), NONE);
            faultOf(" ".repeat(196) + "flip", 200);
            faultOf(" ".repeat(195) + "flip0", NONE);
            faultOf(" ".repeat(195) + "flip3", 199);
        }

        static void faultChangesNothing() {
            Dues.sentence("The place of the FAULT (the letter with which the TOKEN begins, or the length); NONE.");
            String[] texts = {"signs 6 dddddddddddddddddddd;point 0 9 9 9;flip 1;swap 0 5;draw", "signs 4 oooo;flip 4", ""};
            for (String text : texts) {
                SignTriples x = new SignTriples();
                x.flip(0);
                x.keep(0);
                Made.write(x, text);
                int fault = x.fault();
                Dues.due("fault again", x.fault(), fault);
                Dues.due("arrangement", Made.arrangement(x), "d -1 0 0;1 1 1;1 2 4;");
                Dues.due("letters", x.count(7), text.length());
                Dues.due("can be undone", x.count(6), 1);
                Dues.due("kept", x.back(0), 3);
            }
        }

        // ---- promise 5

        static void tellAnswersHowManyClausesThereWere() {
            Dues.sentence("THE TEXT's CLAUSES are done, and it is empty then: how many there were.");
            for (int clauses = 1; clauses <= 24; clauses++) {
                SignTriples x = Made.written("draw;".repeat(clauses - 1) + "draw");
                Dues.due("tell", x.tell(), clauses);
                Dues.due("letters", x.count(7), 0);
                Dues.due("tell of the empty one", x.tell(), NOT);
            }
        }

        static void theNextTextBeginsAnew() {
            Dues.sentence("THE TEXT's CLAUSES are done, and it is empty then: how many there were.");
            SignTriples x = Made.told("draw;draw;draw;draw");
            Made.write(x, "flip 0");
            Dues.due("tell", x.tell(), 1);
            Dues.due("first letter", x.write('x'), 1);
            Dues.due("fault", x.fault(), 0);
            Dues.due("tell", x.tell(), NOT);
            x.erase();
            fill(x, "draw;draw", 200);
            Dues.due("tell", x.tell(), 2);
        }

        static void tellWithAFaultChangesNothing() {
            Dues.sentence("NOT: it has a FAULT.");
            String[] texts = {"", "flip 0;flip 3", "signs 6 uuuuuuuuuuuuuuuuuuuu;", "point 0 9 9 9;draw;drew", "swap 0 1;swap 1 1",
                "signs 4 uuu", "draw;".repeat(24)};
            for (String text : texts) {
                SignTriples x = new SignTriples();
                x.keep(1);
                x.flip(0);
                x.box(0, 0, 1);
                x.lay(0, 0, 0, 0);
                Made.write(x, text);
                Dues.due("tell of '" + text + "'", x.tell(), NOT);
                Dues.due("arrangement", Made.arrangement(x), "d -1 0 0;1 1 1;1 2 4;");
                Dues.due("the text stays", x.count(7), text.length());
                Dues.due("can be undone", x.count(6), 1);
                Dues.due("boxes", x.count(8), 1);
                Dues.due("undo", x.undo(), 0);
                Dues.due("kept", x.back(1), 3);
            }
        }

        static void clausesAreDoneInTheirOrder() {
            Dues.sentence("CLAUSES are done in their order.");
            Dues.due("draw last", Made.told("point 0 1 2 4;draw").sign(0, 1, 2), 0);
            Dues.due("draw first", Made.told("draw;point 0 1 2 4").sign(0, 1, 2), 1);
            Dues.due("flip, swap", Made.points(Made.told("flip 0;swap 0 1")), "1 1 1;-1 0 0;1 2 4;");
            Dues.due("swap, flip", Made.points(Made.told("swap 0 1;flip 0")), "-1 -1 -1;1 0 0;1 2 4;");
            Dues.due("the last signs", Made.signs(Made.told("signs 4 uuuu;signs 3 d;signs 4 oudo")), "oudo");
        }

        static void whatThereWasStays() {
            Dues.sentence("what there was stays");
            SignTriples x = Made.told("signs 4 udou;point 3 -9 8 7");
            Made.write(x, "flip 0");
            x.tell();
            Dues.due("arrangement", Made.arrangement(x), "duou -1 0 0;1 1 1;1 2 4;-9 8 7;");
            Made.write(x, "point 1 1 2 3");
            x.tell();
            Dues.due("signs stay", Made.arrangement(x), "duou -1 0 0;1 2 3;1 2 4;-9 8 7;");
        }

        static void behindATextNothingCanBeUndone() {
            Dues.sentence("Behind them nothing is kept or can be undone; BOXES stay.");
            SignTriples x = new SignTriples();
            for (int i = 0; i < 9; i++) {
                x.flip(0);
            }
            Made.write(x, "draw");
            x.tell();
            Dues.due("can be undone", x.count(6), 0);
            Dues.due("undo", x.undo(), NOT);
            x.flip(0);
            Dues.due("undo", x.undo(), 0);
            Dues.due("undo", x.undo(), NOT);
        }

        static void behindATextNothingIsKept() {
            Dues.sentence("Behind them nothing is kept or can be undone; BOXES stay.");
            SignTriples x = new SignTriples();
            x.keep(0);
            x.keep(1);
            Made.write(x, "draw");
            x.tell();
            Dues.due("back 0", x.back(0), NOT);
            Dues.due("back 1", x.back(1), NOT);
        }

        static void behindATextBoxesStay() {
            Dues.sentence("Behind them nothing is kept or can be undone; BOXES stay.");
            SignTriples x = new SignTriples();
            x.box(0, 1, 2);
            x.box(2, 0, 3);
            x.lay(0, 1, 3, 1);
            x.lay(2, 0, 0, 0);
            Made.write(x, "signs 6 oooooooooooooooooooo");
            x.tell();
            Dues.due("box 0", Made.box(x, 0), ". ++-");
            Dues.due("box 1", Made.box(x, 1), "?");
            Dues.due("box 2", Made.box(x, 2), "+00 . .");
            Dues.due("vectors", x.count(8), 2);
        }
    }
}
