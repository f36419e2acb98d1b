/** Each sentence of the sections "What it is" and "Terms", with the promise that rests on it. */
public final class TermsTests {
    private static final long LEAST = Long.MIN_VALUE;
    private static final long MOST = Long.MAX_VALUE;
    private static final String SIGNS = "+-*&|^/%";
    private static final int[] RANKS = {3, 3, 4, 2, 0, 1, 4, 4};

    public static void main(String[] args) {
        Sentences.section("What it is");
        whatItIs();
        Sentences.section("Terms");
        actsAndThePile();
        kindsOfActs();
        linesAndTexts();
        running();
        Sentences.end();
        Check.end("all that stands in \"What it is\" and \"Terms\" holds");
    }

    private static void whatItIs() {
        Sentences.test(6, "Straight code on a pile, turned line by line to settings of terms that"
                + " are worked in the code's order; both can be run, and do the same.",
                TermsTests::bothDoTheSame);
        Sentences.test(1, "An object is used for at most 512 calls after it has been made; what"
                + " later calls answer is free.",
                TermsTests::all512CallsAnswer);
    }

    private static void actsAndThePile() {
        Sentences.test(2, "ACTS, one behind the other (100 at most): kind and number.",
                TermsTests::hundredActs, TermsTests::refusedActsAreNotCounted,
                TermsTests::actsOneBehindTheOther);
        Sentences.test(6, "The PILE holds NUMBERS of 64 bits that go round; VARIABLES 0 .. 9 are"
                + " a .. j.",
                TermsTests::opsGoRound, TermsTests::minusGrowthAndCallsGoRound,
                TermsTests::numbersHave64Bits, TermsTests::namesOfVariables);
    }

    private static void kindsOfActs() {
        Sentences.test(2, "0 n: puts n (-128 .. 127).", TermsTests::putsANumber);
        Sentences.test(2, "1 n: puts variable n.", TermsTests::putsAVariable);
        Sentences.test(2, "2 n: takes one into variable n.", TermsTests::setsAVariable);
        Sentences.test(2, "3 n: variable n / 256 (0 .. 9) grows by n % 256 - 128 (n 0 .. 2559).",
                TermsTests::growsAVariable);
        Sentences.test(2, "4 n: takes x and y (the last one) and puts x op y: n 0 + 1 - 2 * 3 & 4"
                + " | 5 ^ 6 / 7 % (/ towards 0).",
                TermsTests::worksAnOp, TermsTests::dividesTowards0);
        Sentences.test(2, "5: takes x, puts - x.", TermsTests::putsMinus);
        Sentences.test(2, "6: takes one.", TermsTests::takesOne);
        Sentences.test(2, "7: takes x, puts x, x.", TermsTests::putsTwice);
        Sentences.test(2, "8: takes x, y, puts y, x.", TermsTests::swaps);
        Sentences.test(2, "9: takes x, y, puts y, x, y.", TermsTests::tucks);
        Sentences.test(2, "10 n: CALL of f with n parameters (0 .. 3), takes them, puts what it"
                + " gives.",
                TermsTests::calls);
        Sentences.test(2, "(The number of 5 to 9 is 0.)", TermsTests::numberOf5To9);
        Sentences.test(2, "Of an act that takes more than lie there, or behind which more than 20"
                + " would, nothing is done.",
                TermsTests::tooFewDoNothing, TermsTests::tooManyDoNothing,
                TermsTests::justEnoughAreDone);
    }

    private static void linesAndTexts() {
        Sentences.test(3, "LINES come out as acts are told, from terms on a pile of their own:"
                + " 0, 1, 4, 5, 10 put a term.",
                TermsTests::linesComeOutAsActsAreTold, TermsTests::termsThatAreOnlyPut);
        Sentences.test(3, "2, 3, 6 put out a line: v = e; or v += n; or drop e; .",
                TermsTests::linesOf2And3And6);
        Sentences.test(3, "Ahead of that (of 2, 6: below what they take; of 3: all), and of 10"
                + " (below what it takes), of 7, 8, 9 (all), each term that is left on the pile"
                + " and is neither a number nor a TEMPORARY is put out, from below, as a line"
                + " t0 = e; with the next temporary (t0, t1, ..), which takes its place.",
                TermsTests::putOutAheadOf2And6, TermsTests::putOutAheadOf3,
                TermsTests::putOutAheadOf10, TermsTests::putOutAheadOf7To9,
                TermsTests::whatIsPutOut, TermsTests::aFullPileIsPutOut);
        Sentences.test(3, "Then 7, 8, 9 turn the pile.", TermsTests::turnsOfThePile);
        Sentences.test(4, "A TERM's text: n, a .. j, t0 .., f(e, e), -e, e op e (op between"
                + " blanks).",
                TermsTests::textsOfTerms);
        Sentences.test(4, "RANKS from the loosest: | ; ^ ; & ; + - ; * / % ; - in front; all"
                + " else.",
                TermsTests::ranksAsTheLeftOne);
        Sentences.test(4, "In brackets ( ) is what stands, as the left one of an op, lower than"
                + " it; as the right one, not higher; behind - , lower than - , or a number, or"
                + " another - .",
                TermsTests::bracketsOfTheLeftOne, TermsTests::bracketsOfTheRightOne,
                TermsTests::bracketsBehindMinus, TermsTests::noOtherBrackets);
    }

    private static void running() {
        Sentences.test(6, "RUNNING, for values of the variables: of the ACTS, or of the LINES and"
                + " then of the terms that are left on the pile, from below.",
                TermsTests::runsForGivenValues, TermsTests::linesThenTermsFromBelow);
        Sentences.test(6, "CALLS are counted from 1 on: call c of f with x, y, z gives 31 * c + x"
                + " + 3 * y + 9 * z (0 for what is wanting).",
                TermsTests::callsCountFrom1, TermsTests::parametersThatAreWanting);
        Sentences.test(6, "/ and % by 0 are a FAILURE: it ends there.",
                TermsTests::by0IsAFailure, TermsTests::aFailureEndsTheRun);
        Sentences.test(6, "A line works its term from the left, parts ahead of what takes them.",
                TermsTests::fromTheLeft);
        Sentences.test(2, "What throws or is refused changes nothing.",
                TermsTests::actsThatThrowChangeNothing, TermsTests::othersThatThrowChangeNothing,
                TermsTests::refusalsChangeNothing);
        Sentences.test(3, "The constants: `NONE = -1`: None.", TermsTests::noneIsMinus1);
    }

    // ---- What it is

    private static void bothDoTheSame() {
        String[] codes = {
            "", "3 129", "0 5 2 0", "1 0 1 1 4 0 0 -5 4 2 2 2", "1 0 3 129 1 0 4 1",
            "1 0 1 1 8 0 4 1 2 0", "10 0 10 0 4 1", "1 0 2 1 1 1 7 0 4 2 6 0 1 0",
            "1 0 1 1 9 0 4 0 4 2 10 1 3 0 1 0 5 0",
        };
        for (String code : codes) {
            TermPile x = Check.told(code);
            x.give(0, 1234567890123L);
            x.give(1, -77);
            Check.dueSame(code, x);
        }
    }

    private static void all512CallsAnswer() {
        TermPile x = new TermPile();
        int calls = 0;
        for (; calls < 100; calls++) {
            Check.due("call " + (calls + 1), x.act(calls % 2 == 0 ? 10 : 2, 0), calls + 1);
        }
        for (; calls < 512; calls += 4) {
            Check.due("call " + (calls + 1), x.run(0), 0);
            Check.due("call " + (calls + 2), x.run(1), 0);
            Check.due("call " + (calls + 3), x.line(49, 7), ';');
            Check.due("call " + (calls + 4), x.value(calls / 4 % 2, 0), 31 * 50);
        }
        // The count above ends with the last call that is promised.
        Check.due("calls", calls, 512);
    }

    // ---- Terms: acts and the pile

    private static void hundredActs() {
        TermPile grown = new TermPile();
        TermPile dropped = new TermPile();
        for (int k = 1; k <= 100; k++) {
            Check.due("growth " + k, grown.act(3, 129), k);
            Check.due("put and dropped, " + k, dropped.act(k % 2 == 1 ? 10 : 6, 0), k);
        }
        Check.dueRefused(grown, 3, 129, Check.STATE);
        Check.dueRefused(dropped, 10, 0, Check.STATE);
        Check.due("acts", grown.count(0), 100);
        Check.due("lines", grown.count(1), 100);
        Check.due("the last line", Check.line(grown, 99), "a += 1;");
        Check.dueSame("100 growths", grown);
        Check.due("a behind 100 growths", grown.value(0, 0), 100);
        Check.dueSame("50 calls", dropped);
        Check.due("calls of 100 acts", dropped.count(4), 50);
        Check.due("calls of 50 lines", dropped.count(5), 50);
    }

    private static void refusedActsAreNotCounted() {
        TermPile x = new TermPile();
        for (int k = 1; k <= 99; k++) {
            x.act(3, 128);
            Check.dueRefused(x, 6, 0, Check.STATE);
            Check.dueRefused(x, 11, 0, Check.ARGUMENT);
        }
        Check.due("the hundredth", x.act(3, 128), 100);
        Check.dueRefused(x, 3, 128, Check.STATE);
    }

    private static void actsOneBehindTheOther() {
        Check.dueLeft("7 - 2", Check.told("0 7 0 2 4 1"), 5L);
        Check.dueLeft("2 - 7", Check.told("0 2 0 7 4 1"), -5L);
        TermPile x = Check.told("0 3 2 0 3 133 1 0 0 4 2 0");
        Check.dueLeft("a is set, grows, is put, is set", x, 8L);
        Check.due("a at last", x.value(0, 0), 4);
    }

    private static TermPile withAAndB(String acts, long a, long b) {
        TermPile x = Check.told(acts);
        x.give(0, a);
        x.give(1, b);
        return x;
    }

    private static void dueOp(int op, long a, long b, long result) {
        String what = a + " " + SIGNS.charAt(op) + " " + b;
        Check.dueLeft(what, withAAndB("1 0 1 1 4 " + op, a, b), result);
    }

    private static void opsGoRound() {
        dueOp(0, MOST, 1, LEAST);
        dueOp(0, LEAST, -1, MOST);
        dueOp(0, LEAST, LEAST, 0);
        dueOp(1, LEAST, 1, MOST);
        dueOp(1, MOST, -1, LEAST);
        dueOp(1, 0, LEAST, LEAST);
        dueOp(2, MOST, MOST, 1);
        dueOp(2, LEAST, -1, LEAST);
        dueOp(2, 1L << 32, 1L << 32, 0);
        dueOp(2, 1L << 62, 3, -(1L << 62));
        dueOp(6, LEAST, -1, LEAST);
        dueOp(7, LEAST, -1, 0);
    }

    private static void minusGrowthAndCallsGoRound() {
        Check.dueLeft("- of the least", withAAndB("1 0 5 0", LEAST, 0), LEAST);
        Check.dueLeft("the most grows", withAAndB("3 129 1 0", MOST, 0), LEAST);
        Check.dueLeft("the least grows by -128", withAAndB("3 0 1 0", LEAST, 0), MOST - 127);
        Check.dueLeft("call with the most", withAAndB("1 0 10 1", MOST, 0), LEAST + 30);
        Check.dueLeft("3 times the most", withAAndB("0 0 1 0 10 2", MOST, 0), LEAST + 28);
        Check.dueLeft("9 times the least", withAAndB("0 0 0 0 1 0 10 3", LEAST, 0), LEAST + 31);
    }

    private static void numbersHave64Bits() {
        long wide = 0x123456789ABCDEFL;
        Check.dueLeft("put and set", withAAndB("1 0 2 1 1 1", wide, 0), wide);
        Check.dueLeft("turned", withAAndB("1 0 1 1 9 0", wide, LEAST), LEAST, wide, LEAST);
        dueOp(0, 0x7FFFFFFFL, 1, 0x80000000L);
        dueOp(2, 0x7FFFFFFFL, 0x7FFFFFFFL, 0x3FFFFFFF00000001L);
        dueOp(3, -1, wide, wide);
        dueOp(4, LEAST, 1, LEAST + 1);
        dueOp(5, MOST, -1, LEAST);
        dueOp(6, wide, 16, 0x123456789ABCDEL);
        dueOp(7, wide, 1L << 40, 0x6789ABCDEFL);
        Check.dueLeft("a number below 0 has 64 bits too", withAAndB("0 -1 1 0 4 3", wide, 0), wide);
    }

    private static void namesOfVariables() {
        for (int v = 0; v <= 9; v++) {
            char name = "abcdefghij".charAt(v);
            Check.dueTerm("1 " + v, "" + name);
            Check.due("set " + v, Check.lines(Check.told("0 1 2 " + v)), name + " = 1;");
            int n = 256 * v + 129;
            Check.due("grown " + v, Check.lines(Check.told("3 " + n)), name + " += 1;");
        }
        for (int v : Check.WRONG_VARIABLES) {
            Check.dueRefused(Check.numbers(1), 1, v, Check.ARGUMENT);
            Check.dueRefused(Check.numbers(1), 2, v, Check.ARGUMENT);
        }
    }

    // ---- Terms: kinds of acts

    /** Just the numbers from least to most are right for this kind, on a pile that allows it. */
    private static void dueNumbers(int kind, int least, int most) {
        Check.due(kind + " " + least, Check.numbers(5).act(kind, least), 6);
        Check.due(kind + " " + most, Check.numbers(5).act(kind, most), 6);
        int[] wrong = {least - 1, most + 1, least - 256, most + 256,
            Integer.MIN_VALUE, Integer.MAX_VALUE};
        for (int n : wrong) {
            TermPile x = Check.numbers(5);
            Check.dueRefused(x, kind, n, Check.ARGUMENT);
            Check.due("acts behind " + kind + " " + n, x.count(0), 5);
        }
    }

    private static void putsANumber() {
        dueNumbers(0, -128, 127);
        for (int n : new int[] {-128, -127, -100, -99, -10, -9, -1, 0, 1, 9, 10, 99, 100, 127}) {
            Check.dueLeft("0 " + n, Check.told("0 1 0 " + n), 1L, (long) n);
            Check.dueTerm("0 " + n, "" + n);
        }
    }

    private static void putsAVariable() {
        dueNumbers(1, 0, 9);
        for (int v = 0; v <= 9; v++) {
            TermPile x = Check.told("0 1 1 " + v);
            for (int other = 0; other <= 9; other++) {
                x.give(other, other == v ? 1000 : -1);
            }
            Check.dueLeft("1 " + v, x, 1L, 1000L);
            Check.due("variable " + v + " stays", x.value(0, v), 1000);
        }
    }

    private static void setsAVariable() {
        dueNumbers(2, 0, 9);
        Check.dueRefused(new TermPile(), 2, 0, Check.STATE);
        for (int v = 0; v <= 9; v++) {
            TermPile x = Check.told("0 4 0 5 2 " + v);
            Check.dueLeft("2 " + v + " takes the last one", x, 4L);
            for (int other = 0; other <= 9; other++) {
                Check.due("variable " + other + " behind 2 " + v, x.value(0, other), other == v ? 5 : 0);
            }
        }
    }

    private static void growsAVariable() {
        dueNumbers(3, 0, 2559);
        int[] numbers = {0, 1, 127, 128, 129, 255, 256, 511, 512, 2303, 2304, 2432, 2559};
        int[] variables = {0, 0, 0, 0, 0, 0, 1, 1, 2, 8, 9, 9, 9};
        int[] growths = {-128, -127, -1, 0, 1, 127, -128, 127, -128, 127, -128, 0, 127};
        for (int at = 0; at < numbers.length; at++) {
            TermPile x = Check.told("3 " + numbers[at]);
            x.give(variables[at], 1000);
            Check.dueSame("3 " + numbers[at], x);
            Check.due("3 " + numbers[at], x.value(0, variables[at]), 1000 + growths[at]);
            char name = "abcdefghij".charAt(variables[at]);
            Check.due("3 " + numbers[at], Check.lines(x), name + " += " + growths[at] + ";");
        }
        Check.due("on an empty pile", new TermPile().act(3, 0), 1);
        Check.due("on a full pile", Check.numbers(20).act(3, 0), 21);
    }

    private static void worksAnOp() {
        dueNumbers(4, 0, 7);
        Check.dueRefused(new TermPile(), 4, 0, Check.STATE);
        Check.dueRefused(Check.numbers(1), 4, 0, Check.STATE);
        long[] results = {22, 8, 105, 7, 15, 8, 2, 1};
        long[] swapped = {22, -8, 105, 7, 15, 8, 0, 7};
        for (int op = 0; op < 8; op++) {
            Check.dueLeft("15 op 7, " + op, Check.told("0 1 0 15 0 7 4 " + op), 1L, results[op]);
            Check.dueLeft("7 op 15, " + op, Check.told("0 1 0 7 0 15 4 " + op), 1L, swapped[op]);
            Check.dueTerm("1 0 1 1 4 " + op, "a " + SIGNS.charAt(op) + " b");
        }
    }

    private static void dividesTowards0() {
        dueOp(6, 7, 2, 3);
        dueOp(6, -7, 2, -3);
        dueOp(6, 7, -2, -3);
        dueOp(6, -7, -2, 3);
        dueOp(7, 7, 2, 1);
        dueOp(7, -7, 2, -1);
        dueOp(7, 7, -2, 1);
        dueOp(7, -7, -2, -1);
        dueOp(6, 0, 5, 0);
        dueOp(6, 1, MOST, 0);
        dueOp(6, -1, MOST, 0);
        dueOp(7, -1, MOST, -1);
        dueOp(6, LEAST, MOST, -1);
        dueOp(6, MOST, LEAST, 0);
    }

    private static void putsMinus() {
        Check.dueRefused(new TermPile(), 5, 0, Check.STATE);
        Check.dueLeft("- 0", Check.told("0 0 5 0"), 0L);
        Check.dueLeft("- 127, the last one", Check.told("0 5 0 127 5 0"), 5L, -127L);
        Check.dueLeft("- -128", Check.told("0 -128 5 0"), 128L);
        Check.dueLeft("- of the most", withAAndB("1 0 5 0", MOST, 0), -MOST);
        Check.due("on a full pile", Check.numbers(20).act(5, 0), 21);
    }

    private static void takesOne() {
        Check.dueRefused(new TermPile(), 6, 0, Check.STATE);
        Check.dueLeft("the last of two", Check.told("0 4 0 5 6 0"), 4L);
        TermPile x = Check.told("0 4 6 0");
        Check.dueLeft("the only one", x);
        Check.dueRefused(x, 6, 0, Check.STATE);
    }

    private static void putsTwice() {
        Check.dueRefused(new TermPile(), 7, 0, Check.STATE);
        Check.dueLeft("7", Check.told("0 4 0 5 7 0"), 4L, 5L, 5L);
        Check.due("the twentieth", Check.numbers(19).act(7, 0), 20);
        Check.dueRefused(Check.numbers(20), 7, 0, Check.STATE);
    }

    private static void swaps() {
        Check.dueRefused(new TermPile(), 8, 0, Check.STATE);
        Check.dueRefused(Check.numbers(1), 8, 0, Check.STATE);
        Check.dueLeft("8 of two", Check.told("0 4 0 5 8 0"), 5L, 4L);
        Check.dueLeft("8 of three", Check.told("0 3 0 4 0 5 8 0"), 3L, 5L, 4L);
        TermPile full = Check.numbers(20);
        Check.due("on a full pile", full.act(8, 0), 21);
        Check.dueSame("a full pile", full);
        Check.due("the last but one", full.left(0, 18), 19);
        Check.due("the last one", full.left(0, 19), 18);
    }

    private static void tucks() {
        Check.dueRefused(new TermPile(), 9, 0, Check.STATE);
        Check.dueRefused(Check.numbers(1), 9, 0, Check.STATE);
        Check.dueLeft("9 of two", Check.told("0 4 0 5 9 0"), 5L, 4L, 5L);
        Check.dueLeft("9 of three", Check.told("0 3 0 4 0 5 9 0"), 3L, 5L, 4L, 5L);
        TermPile most = Check.numbers(19);
        Check.due("the twentieth", most.act(9, 0), 20);
        Check.dueSame("19 and one", most);
        Check.due("place 17", most.left(0, 17), 18);
        Check.due("place 18", most.left(0, 18), 17);
        Check.due("place 19", most.left(0, 19), 18);
        Check.dueRefused(Check.numbers(20), 9, 0, Check.STATE);
    }

    private static void calls() {
        dueNumbers(10, 0, 3);
        for (int n = 0; n <= 3; n++) {
            for (int lie = 0; lie < n; lie++) {
                Check.dueRefused(Check.numbers(lie), 10, n, Check.STATE);
            }
            TermPile just = Check.numbers(n);
            Check.due("just " + n, just.act(10, n), n + 1);
            Check.due("terms behind 10 " + n, just.count(3), 1);
        }
        Check.dueRefused(Check.numbers(20), 10, 0, Check.STATE);
        Check.due("the twentieth", Check.numbers(19).act(10, 0), 20);
        for (int n = 1; n <= 3; n++) {
            TermPile full = Check.numbers(20);
            Check.due("10 " + n + " on a full pile", full.act(10, n), 21);
            Check.due("terms behind 10 " + n + " on a full pile", full.count(3), 21 - n);
        }
        Check.dueLeft("it takes the last ones", Check.told("0 100 0 1 0 2 10 2"), 100L, 31L + 1 + 6);
    }

    private static void numberOf5To9() {
        for (int kind = 5; kind <= 9; kind++) {
            dueNumbers(kind, 0, 0);
        }
    }

    private static void tooFewDoNothing() {
        int[] takes = {0, 0, 1, 0, 2, 1, 1, 1, 2, 2};
        for (int kind = 0; kind <= 9; kind++) {
            for (int lie = 0; lie < takes[kind]; lie++) {
                dueNotDone(Check.variables(lie), kind, 0);
            }
        }
        for (int n = 1; n <= 3; n++) {
            for (int lie = 0; lie < n; lie++) {
                dueNotDone(Check.variables(lie), 10, n);
            }
        }
    }

    private static void tooManyDoNothing() {
        int[][] acts = {{0, 5}, {1, 0}, {7, 0}, {9, 0}, {10, 0}};
        for (int[] act : acts) {
            dueNotDone(Check.numbers(20), act[0], act[1]);
            dueNotDone(Check.variables(20), act[0], act[1]);
        }
    }

    private static void dueNotDone(TermPile x, int kind, int n) {
        x.give(0, 7);
        x.run(0);
        x.run(1);
        Check.dueUnchanged("act " + kind + " " + n, x, () -> x.act(kind, n), Check.STATE);
    }

    private static void justEnoughAreDone() {
        int[] takes = {0, 0, 1, 0, 2, 1, 1, 1, 2, 2};
        int[] more = {1, 1, -1, 0, -1, 0, -1, 1, 0, 1};
        for (int kind = 0; kind <= 9; kind++) {
            TermPile few = Check.variables(takes[kind]);
            Check.due("just enough for " + kind, few.act(kind, 0), takes[kind] + 1);
            Check.due("terms behind it", few.count(3), takes[kind] + more[kind]);
            TermPile many = Check.variables(20 - Math.max(0, more[kind]));
            int before = many.count(3);
            Check.due("just room for " + kind, many.act(kind, 0), before + 1);
            Check.due("terms behind it", many.count(3), before + more[kind]);
        }
    }

    // ---- Terms: lines and texts

    private static void linesComeOutAsActsAreTold() {
        TermPile x = Check.told("1 0");
        Check.due("ahead of 2", x.count(1), 0);
        x.act(2, 1);
        Check.dueTexts("behind 2, without a run", x, "b = a;", "");
        x.act(3, 129);
        Check.dueTexts("behind 3", x, "b = a; a += 1;", "");
        x.act(1, 2);
        x.run(0);
        x.run(1);
        Check.dueTexts("runs change neither", x, "b = a; a += 1;", "c");
        x.act(6, 0);
        Check.dueTexts("behind 6", x, "b = a; a += 1; drop c;", "");
    }

    private static void termsThatAreOnlyPut() {
        Check.dueTexts("0", Check.told("0 1 0 2"), "", "1 | 2");
        Check.dueTexts("1", Check.told("1 0 1 1"), "", "a | b");
        Check.dueTexts("4", Check.told("1 0 1 1 1 2 4 0"), "", "a | b + c");
        Check.dueTexts("5", Check.told("1 0 1 1 5 0"), "", "a | -b");
        Check.dueTexts("10", Check.told("1 0 1 1 10 2"), "", "f(a, b)");
        Check.dueTexts("all", Check.told("0 1 1 2 4 1 5 0 10 1"), "", "f(-(1 - c))");
    }

    private static void linesOf2And3And6() {
        Check.dueTexts("2", Check.told("0 -128 2 9"), "j = -128;", "");
        Check.dueTexts("2 of a term", Check.told("1 0 1 1 4 0 0 -5 4 2 2 2"), "c = (a + b) * -5;", "");
        Check.dueTexts("2 of a temporary", Check.told("1 0 7 0 2 0"), "t0 = a; a = t0;", "t0");
        Check.dueTexts("3", Check.told("3 0 3 128 3 255 3 2559 3 2304"),
                "a += -128; a += 0; a += 127; j += 127; j += -128;", "");
        Check.dueTexts("6", Check.told("1 2 6 0"), "drop c;", "");
        Check.dueTexts("6 of a number", Check.told("0 0 6 0"), "drop 0;", "");
        Check.dueTexts("6 of a term", Check.told("1 0 1 1 4 4 5 0 6 0"), "drop -(a | b);", "");
    }

    private static void putOutAheadOf2And6() {
        Check.dueTexts("2, nothing below", Check.told("1 0 2 1"), "b = a;", "");
        Check.dueTexts("2, one below", Check.told("1 0 1 1 2 0"), "t0 = a; a = b;", "t0");
        Check.dueTexts("2, three below", Check.told("1 0 1 1 0 7 1 2 2 0"),
                "t0 = a; t1 = b; a = c;", "t0 | t1 | 7");
        Check.dueTexts("6, nothing below", Check.told("1 0 6 0"), "drop a;", "");
        Check.dueTexts("6, below", Check.told("1 0 1 1 5 0 6 0"), "t0 = a; drop -b;", "t0");
    }

    private static void putOutAheadOf3() {
        Check.dueTexts("3, nothing there", Check.told("3 129"), "a += 1;", "");
        Check.dueTexts("3, one", Check.told("1 1 3 129"), "t0 = b; a += 1;", "t0");
        Check.dueTexts("3, all", Check.told("0 3 1 0 0 4 5 0 3 129"),
                "t0 = a; t1 = -(4); a += 1;", "3 | t0 | t1");
    }

    private static void putOutAheadOf10() {
        Check.dueTexts("10 0, nothing there", Check.told("10 0"), "", "f()");
        Check.dueTexts("10 0, all", Check.told("1 0 1 1 10 0"), "t0 = a; t1 = b;", "t0 | t1 | f()");
        Check.dueTexts("10 1, nothing below", Check.told("1 0 10 1"), "", "f(a)");
        Check.dueTexts("10 1, below", Check.told("1 0 1 1 10 1"), "t0 = a;", "t0 | f(b)");
        Check.dueTexts("10 2, below", Check.told("1 0 1 1 1 2 10 2"), "t0 = a;", "t0 | f(b, c)");
        Check.dueTexts("10 3, nothing below", Check.told("1 0 1 1 1 2 10 3"), "", "f(a, b, c)");
        Check.dueTexts("10 3, below", Check.told("1 3 1 0 1 1 1 2 10 3"), "t0 = d;", "t0 | f(a, b, c)");
        Check.dueTexts("calls in their order", Check.told("10 0 10 0 10 2"), "t0 = f();", "f(t0, f())");
        Check.dueTexts("what it takes stays whole",
                Check.told("1 0 1 1 4 0 1 2 1 3 4 2 1 4 1 5 4 1 10 2"),
                "t0 = a + b;", "t0 | f(c * d, e - f)");
        Check.dueTexts("and is taken whole", Check.told("1 0 1 1 4 0 1 2 1 3 4 2 10 1 4 0 2 0"),
                "t0 = a + b; a = t0 + f(c * d);", "");
    }

    private static void putOutAheadOf7To9() {
        Check.dueTexts("7, one", Check.told("1 0 7 0"), "t0 = a;", "t0 | t0");
        Check.dueTexts("7", Check.told("1 0 1 1 7 0"), "t0 = a; t1 = b;", "t0 | t1 | t1");
        Check.dueTexts("8", Check.told("1 0 1 1 1 2 8 0"), "t0 = a; t1 = b; t2 = c;", "t0 | t2 | t1");
        Check.dueTexts("9", Check.told("1 0 1 1 1 2 9 0"),
                "t0 = a; t1 = b; t2 = c;", "t0 | t2 | t1 | t2");
    }

    private static void whatIsPutOut() {
        Check.dueTexts("no number", Check.told("0 -128 0 127 0 0 3 128"), "a += 0;", "-128 | 127 | 0");
        Check.dueTexts("no temporary", Check.told("1 0 7 0 3 128 3 128 7 0"),
                "t0 = a; a += 0; a += 0;", "t0 | t0 | t0");
        Check.dueTexts("a term with a temporary", Check.told("1 0 7 0 5 0 3 128"),
                "t0 = a; t1 = -t0; a += 0;", "t0 | t1");
        Check.dueTexts("a term of numbers", Check.told("0 5 5 0 0 1 0 2 4 0 3 128"),
                "t0 = -(5); t1 = 1 + 2; a += 0;", "t0 | t1");
        Check.dueTexts("a call", Check.told("10 0 3 128"), "t0 = f(); a += 0;", "t0");
        TermPile again = Check.told("1 0 3 128 6 0 1 0 3 128");
        Check.dueTexts("a dropped temporary's name is not used again", again,
                "t0 = a; a += 0; drop t0; t1 = a; a += 0;", "t1");
        Check.due("temporaries", again.count(2), 2);
    }

    private static void aFullPileIsPutOut() {
        TermPile x = Check.variables(20);
        x.act(3, 128);
        Check.due("temporaries", x.count(2), 20);
        Check.due("lines", x.count(1), 21);
        for (int k = 0; k < 20; k++) {
            char name = "abcdefghij".charAt(k % 10);
            Check.due("line " + k, Check.line(x, k), "t" + k + " = " + name + ";");
            Check.due("place " + k, Check.term(x, k), "t" + k);
        }
        Check.due("the line of 3", Check.line(x, 20), "a += 0;");
    }

    private static void turnsOfThePile() {
        Check.dueTexts("7", Check.told("0 1 0 2 7 0"), "", "1 | 2 | 2");
        Check.dueTexts("8", Check.told("0 1 0 2 0 3 8 0"), "", "1 | 3 | 2");
        Check.dueTexts("9", Check.told("0 1 0 2 0 3 9 0"), "", "1 | 3 | 2 | 3");
        Check.dueTexts("7 of one", Check.told("0 1 7 0"), "", "1 | 1");
        Check.dueTexts("8 of two", Check.told("0 1 0 2 8 0"), "", "2 | 1");
        Check.dueTexts("9 of two", Check.told("0 1 0 2 9 0"), "", "2 | 1 | 2");
        Check.dueTexts("temporaries", Check.told("1 0 7 0 8 0 9 0 7 0"), "t0 = a;", "t0 | t0 | t0 | t0");
        Check.dueTexts("turned ones join", Check.told("1 0 7 0 4 2 0 3 8 0 4 1"),
                "t0 = a; t1 = t0 * t0;", "3 - t1");
        TermPile full = Check.numbers(19);
        full.act(9, 0);
        full.act(8, 0);
        Check.due("place 17", Check.term(full, 17), "18");
        Check.due("place 18", Check.term(full, 18), "18");
        Check.due("place 19", Check.term(full, 19), "17");
    }

    private static void textsOfTerms() {
        Check.dueTerm("0 -128", "-128");
        Check.dueTerm("0 0", "0");
        Check.dueTerm("0 127", "127");
        Check.dueTerm("1 0", "a");
        Check.dueTerm("1 9", "j");
        Check.dueTerm("1 0 7 0", "t0");
        Check.dueTerm("10 0", "f()");
        Check.dueTerm("1 0 10 1", "f(a)");
        Check.dueTerm("1 0 1 1 10 2", "f(a, b)");
        Check.dueTerm("1 0 1 1 4 4 0 -1 1 2 5 0 10 3", "f(a | b, -1, -c)");
        Check.dueTerm("1 0 5 0", "-a");
        for (int op = 0; op < 8; op++) {
            Check.dueTerm("1 0 0 -3 4 " + op, "a " + SIGNS.charAt(op) + " -3");
        }
        TermPile eleven = Check.variables(11);
        eleven.act(8, 0);
        Check.due("t9, turned", Check.term(eleven, 10), "t9");
        Check.due("t10, turned", Check.term(eleven, 9), "t10");
    }

    private static void ranksAsTheLeftOne() {
        for (int in = 0; in < 8; in++) {
            for (int out = 0; out < 8; out++) {
                String part = "a " + SIGNS.charAt(in) + " b";
                String left = RANKS[in] < RANKS[out] ? "(" + part + ")" : part;
                Check.dueTerm("1 0 1 1 4 " + in + " 1 2 4 " + out,
                        left + " " + SIGNS.charAt(out) + " c");
            }
            Check.dueTerm("1 0 5 0 1 1 5 0 4 " + in, "-a " + SIGNS.charAt(in) + " -b");
        }
    }

    private static void bracketsOfTheLeftOne() {
        Check.dueTerm("1 0 1 1 4 0 1 2 4 2", "(a + b) * c");
        Check.dueTerm("1 0 1 1 4 1 1 2 4 0", "a - b + c");
        Check.dueTerm("1 0 1 1 4 1 1 2 4 1", "a - b - c");
        Check.dueTerm("1 0 1 1 4 2 1 2 4 0", "a * b + c");
        Check.dueTerm("0 -1 1 0 4 2", "-1 * a");
        Check.dueTerm("1 0 5 0 1 1 4 6", "-a / b");
    }

    private static void bracketsOfTheRightOne() {
        for (int in = 0; in < 8; in++) {
            for (int out = 0; out < 8; out++) {
                String part = "a " + SIGNS.charAt(in) + " b";
                String right = RANKS[in] <= RANKS[out] ? "(" + part + ")" : part;
                Check.dueTerm("1 2 1 0 1 1 4 " + in + " 4 " + out,
                        "c " + SIGNS.charAt(out) + " " + right);
            }
        }
        Check.dueTerm("1 0 0 -1 4 1", "a - -1");
        Check.dueTerm("1 0 1 1 5 0 4 1", "a - -b");
        Check.dueTerm("1 0 1 1 5 0 4 2", "a * -b");
    }

    private static void bracketsBehindMinus() {
        for (int op = 0; op < 8; op++) {
            Check.dueTerm("1 0 1 1 4 " + op + " 5 0", "-(a " + SIGNS.charAt(op) + " b)");
        }
        Check.dueTerm("0 7 5 0", "-(7)");
        Check.dueTerm("0 0 5 0", "-(0)");
        Check.dueTerm("0 -7 5 0", "-(-7)");
        Check.dueTerm("1 0 5 0 5 0", "-(-a)");
        Check.dueTerm("1 0 5 0 5 0 5 0", "-(-(-a))");
    }

    private static void noOtherBrackets() {
        Check.dueTerm("1 0 5 0", "-a");
        Check.dueTerm("10 0 5 0", "-f()");
        Check.due("behind -, a temporary", Check.term(Check.told("1 0 7 0 5 0"), 1), "-t0");
        Check.dueTerm("1 0 1 1 4 0 10 1 5 0", "-f(a + b)");
        Check.dueTerm("1 0 5 0 10 1 1 1 4 2", "f(-a) * b");
        Check.dueTerm("0 3 1 1 4 4 0 4 5 0 10 2", "f(3 | b, -(4))");
        Check.due("in a line", Check.lines(Check.told("1 0 1 1 4 4 2 2")), "c = a | b;");
    }

    // ---- Terms: running

    private static void runsForGivenValues() {
        TermPile x = Check.told("1 0 1 9 4 0 2 1 1 1");
        Check.dueLeft("all are 0", x, 0L);
        x.give(0, MOST);
        x.give(9, -7);
        Check.dueLeft("a and j are given", x, MOST - 7);
        x.give(9, 0);
        Check.dueLeft("j is given again", x, MOST);
        Check.dueLeft("nothing is told", new TermPile());
    }

    private static void linesThenTermsFromBelow() {
        TermPile x = withAAndB("1 0 3 129 1 0 10 0 1 1", 8, -3);
        Check.dueTexts("a is put, grows", x, "t0 = a; a += 1; t1 = a;", "t0 | t1 | f() | b");
        Check.dueLeft("old and new a, a call", x, 8L, 9L, 31L, -3L);
        TermPile fails = Check.told("10 0 0 1 0 0 4 6");
        Check.dueTexts("a call below, a failure above", fails, "", "f() | 1 / 0");
        Check.due("the lower term is worked first", fails.run(1), 2);
        TermPile first = Check.told("3 129 10 0 2 1 0 1 1 0 4 6");
        Check.dueLeft("the lines are ahead of the terms", first, 1L);
        TermPile full = Check.variables(20);
        full.give(0, 5);
        full.give(9, 6);
        Check.dueSame("20 terms", full);
        Check.due("the lowest", full.left(1, 0), 5);
        Check.due("the last one", full.left(1, 19), 6);
    }

    private static void callsCountFrom1() {
        Check.dueLeft("the first call", Check.told("10 0"), 31L);
        Check.dueLeft("three calls", Check.told("10 0 10 0 10 0"), 31L, 62L, 93L);
        TermPile x = Check.told("10 0 10 0 4 1 2 0 10 0");
        for (int again = 0; again < 3; again++) {
            Check.dueLeft("each run counts from 1 on", x, 93L);
            Check.due("a", x.value(1, 0), -31);
        }
        TermPile many = new TermPile();
        for (int k = 0; k < 50; k++) {
            many.act(10, 0);
            many.act(2, 0);
        }
        Check.dueSame("50 calls", many);
        Check.due("what the last call gave", many.value(0, 0), 31 * 50);
    }

    private static void parametersThatAreWanting() {
        Check.dueLeft("x, y, z", Check.told("0 5 0 7 0 -1 10 3"), 31L + 5 + 21 - 9);
        Check.dueLeft("x, y", Check.told("0 5 0 7 10 2"), 31L + 5 + 21);
        Check.dueLeft("x", Check.told("0 5 10 1"), 31L + 5);
        Check.dueLeft("none", Check.told("0 5 10 0"), 5L, 31L);
        Check.dueLeft("what lies below is no parameter", Check.told("0 100 0 100 0 5 10 1"), 100L, 100L, 36L);
    }

    private static void by0IsAFailure() {
        for (int op = 6; op <= 7; op++) {
            for (String over : new String[] {"0 1", "0 0", "0 -1", "1 0"}) {
                TermPile x = withAAndB(over + " 1 1 4 " + op, LEAST, 0);
                Check.due("acts " + over + " by 0", x.run(0), 1);
                Check.due("lines " + over + " by 0", x.run(1), 1);
                x.give(1, 1);
                Check.dueSame(over + " by 1", x);
                x.give(1, -1);
                Check.dueSame(over + " by -1", x);
            }
        }
        for (int op = 0; op <= 5; op++) {
            Check.dueSame("op " + op + " with 0", Check.told("0 1 0 0 4 " + op));
        }
    }

    private static void aFailureEndsTheRun() {
        for (int side = 0; side <= 1; side++) {
            TermPile x = Check.told("10 0 2 0 0 1 1 9 4 6 2 1 10 0 2 2 3 129");
            Check.due("failure of side " + side, x.run(side), 2);
            Check.due("calls of side " + side, x.count(4 + side), 1);
            Check.due("what is ahead of it is done", x.value(side, 0), 31);
            Check.due("its line is not done", x.value(side, 1), 0);
            Check.due("what is behind it is not done", x.value(side, 2), 0);
            TermPile dropped = Check.told("0 1 0 0 4 7 6 0 3 129");
            Check.due("a dropped failure, side " + side, dropped.run(side), 1);
            Check.due("what is behind a dropped one", dropped.value(side, 0), 0);
        }
    }

    private static void fromTheLeft() {
        Check.dueLeft("the inner call is the first", Check.told("0 1 10 1 10 1"), 31L * 2 + 32);
        Check.dueLeft("calls of two parts", Check.told("10 0 10 0 10 2"), 31L * 3 + 31 + 3 * 62);
        dueFailure("the left part calls, the right one fails", "10 0 0 1 0 0 4 6 4 0", 2);
        dueFailure("the part fails ahead of the call", "0 1 0 0 4 6 10 1", 1);
        dueFailure("the call is ahead of its division", "10 0 0 0 4 7", 2);
        dueFailure("the left part fails ahead of the right one's call", "0 1 0 0 4 6 10 0 4 0", 1);
    }

    /** Both as a term that is left and as a line. */
    private static void dueFailure(String what, String acts, int failure) {
        for (String end : new String[] {"", " 2 0"}) {
            TermPile x = Check.told(acts + end);
            Check.due(what + ": acts" + end, x.run(0), failure);
            Check.due(what + ": lines" + end, x.run(1), failure);
        }
    }

    // ---- Terms: what throws or is refused

    /** Lines, temporaries, terms, values and something left on both sides: much could change. */
    private static TermPile busy() {
        TermPile x = Check.told("1 0 3 133 10 0 2 2 1 1 0 4 4 2");
        x.give(0, 11);
        x.give(1, 5);
        x.run(0);
        x.run(1);
        x.give(3, 6);
        return x;
    }

    private static void actsThatThrowChangeNothing() {
        int[][] wrong = {{-1, 0}, {11, 0}, {12, 0}, {0, 128}, {0, -129}, {1, 10}, {1, -1}, {2, 10},
            {2, -1}, {3, -1}, {3, 2560}, {4, -1}, {4, 8}, {5, 1}, {6, 1}, {7, 1}, {8, -1}, {9, 1},
            {10, 4}, {10, -1}};
        for (int[] act : wrong) {
            TermPile x = busy();
            Check.dueUnchanged("act " + act[0] + " " + act[1], x, () -> x.act(act[0], act[1]),
                    Check.ARGUMENT);
        }
        TermPile few = busy();
        Check.dueUnchanged("a call of three, two lie there", few, () -> few.act(10, 3), Check.STATE);
        TermPile many = Check.variables(20);
        many.run(0);
        many.run(1);
        Check.dueUnchanged("7 on a full pile", many, () -> many.act(7, 0), Check.STATE);
        TermPile hundred = Check.told("1 0 1 1 4 0");
        for (int k = 0; k < 97; k++) {
            hundred.act(5, 0);
        }
        hundred.run(0);
        dueNoActMore(hundred);
    }

    /** No text is read here: it is longer than the calls that one object is used for. */
    private static void dueNoActMore(TermPile hundred) {
        for (int kind = 2; kind <= 7; kind++) {
            Check.dueRefused(hundred, kind, 0, Check.STATE);
        }
        Check.due("acts", hundred.count(0), 100);
        Check.due("lines", hundred.count(1), 0);
        Check.due("temporaries", hundred.count(2), 0);
        Check.due("terms", hundred.count(3), 1);
        Check.due("a", hundred.value(0, 0), 0);
        Check.due("how many are left", Check.leftOf(hundred, 0).size(), 1);
    }

    private static void othersThatThrowChangeNothing() {
        for (int side : Check.WRONG_SIDES) {
            TermPile x = busy();
            Check.dueUnchanged("run " + side, x, () -> x.run(side), Check.ARGUMENT);
            Check.dueUnchanged("value of side " + side, x, () -> x.value(side, 0), Check.INDEX);
        }
        for (int side : Check.WRONG_SIDES) {
            TermPile x = busy();
            Check.dueUnchanged("left of side " + side, x, () -> x.left(side, 0), Check.INDEX);
        }
        for (int place : new int[] {-1, 2, 20, Integer.MIN_VALUE, Integer.MAX_VALUE}) {
            TermPile x = busy();
            Check.dueUnchanged("left at " + place, x, () -> x.left(0, place), Check.INDEX);
        }
        for (int v : Check.WRONG_VARIABLES) {
            TermPile x = busy();
            Check.dueUnchanged("value of variable " + v, x, () -> x.value(1, v), Check.INDEX);
        }
    }

    private static void refusalsChangeNothing() {
        for (int v : Check.WRONG_VARIABLES) {
            TermPile x = busy();
            Check.dueUnchanged("give " + v, x, () -> x.give(v, 99), Check.NOTHING);
            TermPile run = busy();
            run.give(v, 99);
            Check.due("run behind give " + v, run.run(0), 0);
            Check.due("a", run.value(0, 0), 16);
            Check.due("j", run.value(0, 9), 0);
        }
        for (int none : new int[] {-1, 50, Integer.MIN_VALUE, Integer.MAX_VALUE}) {
            TermPile x = busy();
            Check.dueUnchanged("count, line and term of " + none, x,
                    () -> x.count(none) + x.line(none, 0) + x.line(0, none) + x.term(none, 0)
                            + x.term(0, none), Check.NOTHING);
        }
    }

    private static void noneIsMinus1() {
        TermPile x = new TermPile();
        Check.due("NONE", TermPile.NONE, -1);
        Check.due("no line", x.line(0, 0), -1);
        Check.due("no term", x.term(0, 0), -1);
        Check.due("no such count", x.count(6), -1);
    }
}
