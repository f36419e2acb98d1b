/** Each sentence of the sections of the promises 1 to 9. */
public final class PromiseTests {
    private static final long LEAST = Long.MIN_VALUE;
    private static final long MOST = Long.MAX_VALUE;
    private static final int[] WRONG_PLACES = {-1, 20, 21, Integer.MIN_VALUE, Integer.MAX_VALUE};

    public static void main(String[] args) {
        Sentences.section("Promise 1: A new object");
        Sentences.test(1, "No acts.", PromiseTests::noActs, PromiseTests::nothingIsShared);
        act();
        texts();
        running();
        Sentences.section("Promise 9: count");
        Sentences.test(9, "what 0: acts, 1: lines, 2: temporaries, 3: terms on the pile, 4, 5:"
                + " calls that the latest run of side 0, 1 has done (0 without).",
                PromiseTests::counts, PromiseTests::mostThatIsCounted,
                PromiseTests::callsOfTheLatestRun);
        Sentences.test(9, "NONE for another what.", PromiseTests::anotherWhat);
        Sentences.end();
        Check.end("all that the promises say holds");
    }

    private static void act() {
        Sentences.section("Promise 2: act");
        Sentences.test(2, "An act more: how many there are.", PromiseTests::howManyActs);
        Sentences.test(2, "IllegalArgumentException if there is no such kind or number;"
                + " IllegalStateException if there are 100, or it can't be done (too few lie"
                + " there, too many would).",
                PromiseTests::noSuchKind, PromiseTests::noSuchNumber, PromiseTests::thereAre100,
                PromiseTests::tooFewLieThere, PromiseTests::tooManyWould,
                PromiseTests::wrongArgumentsAreToldFirst);
    }

    private static void texts() {
        Sentences.section("Promise 3: line");
        Sentences.test(3, "Sign i of line k (0 the first one; the ; is its last one).",
                PromiseTests::firstAndLastSign, PromiseTests::hundredLines,
                PromiseTests::longestLines);
        Sentences.test(3, "NONE if there is none.",
                PromiseTests::noSuchSignOfALine, PromiseTests::noSuchLine);
        Sentences.section("Promise 4: term");
        Sentences.test(4, "Sign i of the term that lies at a place of the pile (0 the lowest).",
                PromiseTests::placesFromTheLowest, PromiseTests::deepestTerm,
                PromiseTests::longestTerms);
        Sentences.test(4, "NONE if there is none.",
                PromiseTests::noSuchSignOfATerm, PromiseTests::noSuchPlace);
    }

    private static void running() {
        Sentences.section("Promise 5: give");
        Sentences.test(5, "A variable's value at first, for running (all 0 without).",
                PromiseTests::valuesAtFirst, PromiseTests::all0Without,
                PromiseTests::eachRunBeginsAnew);
        Sentences.test(5, "False if there is no such variable.", PromiseTests::noVariableToGive);
        Sentences.section("Promise 6: run");
        Sentences.test(6, "Runs the ACTS (side 0) or the LINES (1): what comes of it: 0, or the"
                + " FAILURE: how many calls were done, plus 1.",
                PromiseTests::runsOneSide, PromiseTests::failureTellsTheCalls,
                PromiseTests::runsWhatIsToldByThen);
        Sentences.test(6, "IllegalArgumentException if there is no such side.",
                PromiseTests::noSideToRun);
        Sentences.section("Promise 7: value");
        Sentences.test(7, "A variable's value behind the latest run of a side; what it has at"
                + " first ahead of that.",
                PromiseTests::valueBehindTheLatestRun, PromiseTests::valueAheadOfARun,
                PromiseTests::valueBehindAFailure);
        Sentences.test(7, "IndexOutOfBoundsException if there is no such variable or side.",
                PromiseTests::noSuchVariableOrSide);
        Sentences.section("Promise 8: left");
        Sentences.test(8, "The value at a place of the pile behind the latest run of a side.",
                PromiseTests::leftBehindTheLatestRun, PromiseTests::twentyAreLeft);
        Sentences.test(8, "IndexOutOfBoundsException if there is none (none behind a FAILURE).",
                PromiseTests::noneAtAPlace, PromiseTests::noneAheadOfARun,
                PromiseTests::noneBehindAFailure);
    }

    // ---- promise 1

    private static void noActs() {
        TermPile x = new TermPile();
        for (int what = 0; what <= 5; what++) {
            Check.due("count " + what, x.count(what), 0);
        }
        Check.due("line", x.line(0, 0), -1);
        Check.due("term", x.term(0, 0), -1);
        for (int kind : new int[] {2, 4, 5, 6, 7, 8, 9}) {
            Check.dueRefused(x, kind, 0, Check.STATE);
        }
        for (int side = 0; side <= 1; side++) {
            for (int v = 0; v <= 9; v++) {
                Check.due("value", x.value(side, v), 0);
            }
            Check.due("left", Check.leftOf(x, side), "[]");
            Check.due("run", x.run(side), 0);
            Check.due("left behind a run", Check.leftOf(x, side), "[]");
        }
        Check.due("the first act", x.act(3, 129), 1);
    }

    private static void nothingIsShared() {
        TermPile one = Check.told("1 0 3 129 10 0");
        one.give(0, 7);
        one.run(0);
        one.run(1);
        TermPile other = new TermPile();
        Check.due("acts of another object", other.count(0), 0);
        Check.due("its line", other.line(0, 0), -1);
        Check.due("its value", other.value(0, 0), 0);
        Check.due("its calls", other.count(4), 0);
        Check.due("acts of the first one", one.count(0), 3);
    }

    // ---- promise 2

    private static void howManyActs() {
        TermPile x = new TermPile();
        Check.dueRefused(x, 6, 0, Check.STATE);
        String acts = "0 1 1 0 4 0 5 0 7 0 8 0 9 0 10 2 2 0 3 0 6 0";
        String[] words = acts.split(" ");
        for (int at = 0; at < words.length; at += 2) {
            int kind = Integer.parseInt(words[at]);
            Check.due("kind " + kind, x.act(kind, Integer.parseInt(words[at + 1])), at / 2 + 1);
            Check.dueRefused(x, 11, 0, Check.ARGUMENT);
            Check.dueRefused(x, 3, 2560, Check.ARGUMENT);
        }
        for (int k = 12; k <= 100; k++) {
            Check.due("act " + k, x.act(3, 0), k);
            Check.due("count behind act " + k, x.count(0), k);
        }
    }

    private static void noSuchKind() {
        for (int kind : new int[] {-1, -2, 11, 12, 13, 256, Integer.MIN_VALUE, Integer.MAX_VALUE}) {
            Check.dueRefused(Check.numbers(3), kind, 0, Check.ARGUMENT);
        }
        for (int kind = 0; kind <= 10; kind++) {
            int right = kind;
            Check.dueThrown("kind " + kind, () -> Check.numbers(3).act(right, 0), Check.NOTHING);
        }
    }

    private static void noSuchNumber() {
        int[] least = {-128, 0, 0, 0, 0, 0, 0, 0, 0, 0, 0};
        int[] most = {127, 9, 9, 2559, 7, 0, 0, 0, 0, 0, 3};
        for (int kind = 0; kind <= 10; kind++) {
            Check.due(kind + ", least", Check.numbers(3).act(kind, least[kind]), 4);
            Check.due(kind + ", most", Check.numbers(3).act(kind, most[kind]), 4);
            TermPile x = Check.numbers(3);
            Check.dueRefused(x, kind, least[kind] - 1, Check.ARGUMENT);
            Check.dueRefused(x, kind, most[kind] + 1, Check.ARGUMENT);
            Check.dueRefused(x, kind, Integer.MIN_VALUE, Check.ARGUMENT);
            Check.dueRefused(x, kind, Integer.MAX_VALUE, Check.ARGUMENT);
        }
    }

    private static void thereAre100() {
        TermPile x = Check.numbers(3);
        for (int k = 4; k <= 99; k++) {
            x.act(3, 129);
        }
        Check.due("the hundredth", x.act(3, 129), 100);
        // Each of these could be done if there were room for one act more.
        for (int kind = 0; kind <= 10; kind++) {
            Check.dueRefused(x, kind, 0, Check.STATE);
        }
        Check.due("acts", x.count(0), 100);
    }

    private static void tooFewLieThere() {
        int[] takes = {0, 0, 1, 0, 2, 1, 1, 1, 2, 2};
        for (int kind = 0; kind <= 9; kind++) {
            for (int lie = 0; lie <= 3; lie++) {
                dueDone(Check.numbers(lie), kind, 0, lie >= takes[kind]);
            }
        }
        for (int n = 0; n <= 3; n++) {
            for (int lie = 0; lie <= 4; lie++) {
                dueDone(Check.numbers(lie), 10, n, lie >= n);
            }
        }
    }

    private static void tooManyWould() {
        int[] more = {1, 1, -1, 0, -1, 0, -1, 1, 0, 1};
        for (int kind = 0; kind <= 9; kind++) {
            for (int lie = 18; lie <= 20; lie++) {
                dueDone(Check.numbers(lie), kind, 0, lie + more[kind] <= 20);
            }
        }
        for (int n = 0; n <= 3; n++) {
            dueDone(Check.numbers(19), 10, n, true);
            dueDone(Check.numbers(20), 10, n, n > 0);
        }
    }

    private static void dueDone(TermPile x, int kind, int n, boolean done) {
        String what = x.count(3) + " lie there, act " + kind + " " + n;
        Check.dueThrown(what, () -> x.act(kind, n), done ? Check.NOTHING : Check.STATE);
    }

    private static void wrongArgumentsAreToldFirst() {
        Check.dueRefused(new TermPile(), 6, 1, Check.ARGUMENT);
        Check.dueRefused(new TermPile(), 10, 4, Check.ARGUMENT);
        Check.dueRefused(Check.numbers(20), 0, 128, Check.ARGUMENT);
        TermPile x = new TermPile();
        for (int k = 0; k < 100; k++) {
            x.act(3, 129);
        }
        Check.dueRefused(x, 11, 0, Check.ARGUMENT);
        Check.dueRefused(x, 3, 2560, Check.ARGUMENT);
    }

    // ---- promise 3

    private static void firstAndLastSign() {
        TermPile x = Check.told("1 0 2 1 1 2 1 3 6 0 3 2304");
        Check.due("first sign of b = a;", x.line(0, 0), 'b');
        Check.due("last sign of b = a;", x.line(0, 5), ';');
        Check.due("first sign of t0 = c;", x.line(1, 0), 't');
        Check.due("last sign of t0 = c;", x.line(1, 6), ';');
        Check.due("first sign of drop d;", x.line(2, 0), 'd');
        Check.due("last sign of drop d;", x.line(2, 6), ';');
        Check.due("first sign of j += -128;", x.line(3, 0), 'j');
        Check.due("last sign of j += -128;", x.line(3, 9), ';');
        Check.due("in any order", x.line(0, 2), '=');
    }

    private static void hundredLines() {
        TermPile x = new TermPile();
        for (int k = 0; k < 100; k++) {
            x.act(3, k % 10 * 256 + 128 + k);
        }
        for (int k : new int[] {0, 1, 9, 10, 98, 99}) {
            Check.due("line " + k, Check.line(x, k), "abcdefghij".charAt(k % 10) + " += " + k + ";");
        }
        Check.due("line 100", x.line(100, 0), -1);
    }

    /** The longest texts that lines of each kind can have: calls with two numbers each. */
    private static void longestLines() {
        String text = callsText(32);
        dueLongLine(callsActs(32) + " 2 9", "j = " + text + ";");
        dueLongLine(callsActs(32) + " 6 0", "drop " + text + ";");
        dueLongLine(callsActs(32) + " 5 0 6 0", "drop -" + text + ";");
        dueLongLine(callsActs(32) + " 3 0", "t0 = " + text + ";");
        dueLongLine(minusActs(98) + " 2 1", "b = " + minusText(98) + ";");
    }

    private static String callsActs(int calls) {
        return "0 -128" + " 0 -128 0 -128 10 3".repeat(calls);
    }

    private static String callsText(int calls) {
        return "f(".repeat(calls) + "-128" + ", -128, -128)".repeat(calls);
    }

    private static String minusActs(int times) {
        return "1 0" + " 5 0".repeat(times);
    }

    private static String minusText(int times) {
        return "-(".repeat(times - 1) + "-a" + ")".repeat(times - 1);
    }

    private interface Signs {
        int of(TermPile x, int i);
    }

    private static void dueLongLine(String acts, String text) {
        dueLongText(acts, text, (x, i) -> x.line(0, i));
    }

    private static void dueLongTerm(String acts, String text) {
        dueLongText(acts, text, (x, i) -> x.term(0, i));
    }

    /** Told anew for each part, as one object is used for 512 calls at most. */
    private static void dueLongText(String acts, String text, Signs signs) {
        TermPile x = null;
        for (int i = 0; i <= text.length(); i++) {
            x = i % 200 == 0 ? Check.told(acts) : x;
            int sign = i < text.length() ? text.charAt(i) : -1;
            Check.due("sign " + i + " of a text of " + text.length(), signs.of(x, i), sign);
        }
    }

    private static void noSuchSignOfALine() {
        TermPile x = Check.told("1 0 2 1 1 2");
        for (int i : new int[] {-1, -2, 6, 7, 1000, Integer.MIN_VALUE, Integer.MAX_VALUE}) {
            Check.due("sign " + i, x.line(0, i), -1);
        }
    }

    private static void noSuchLine() {
        TermPile x = Check.told("1 0 2 1 1 2");
        for (int k : new int[] {-1, 1, 2, 99, 100, 101, Integer.MIN_VALUE, Integer.MAX_VALUE}) {
            Check.due("line " + k, x.line(k, 0), -1);
        }
        Check.due("no line yet", Check.told("1 0 1 1 4 0").line(0, 0), -1);
    }

    // ---- promise 4

    private static void placesFromTheLowest() {
        TermPile x = Check.told("1 0 1 1 4 0 0 -128 1 9");
        Check.due("the lowest", Check.term(x, 0), "a + b");
        Check.due("the middle one", Check.term(x, 1), "-128");
        Check.due("the last one", Check.term(x, 2), "j");
        Check.due("sign 0 of the lowest", x.term(0, 0), 'a');
        Check.due("sign 4 of the lowest", x.term(0, 4), 'b');
        TermPile full = Check.numbers(20);
        for (int k = 0; k < 20; k++) {
            Check.due("place " + k + " of 20", Check.term(full, k), "" + k);
        }
        x.act(6, 0);
        Check.due("place 2 behind 6", x.term(2, 0), -1);
    }

    private static void deepestTerm() {
        dueLongTerm(minusActs(99), minusText(99));
        TermPile x = Check.told(minusActs(98) + " 2 1");
        x.give(0, 5);
        Check.dueSame("98 times -", x);
        Check.due("98 times - 5", x.value(1, 1), 5);
        String acts = "1 0" + " 1 1".repeat(19) + " 4 1".repeat(19);
        Check.dueTerm(acts, "a" + " - (b".repeat(18) + " - b" + ")".repeat(18));
    }

    private static void longestTerms() {
        dueLongTerm(callsActs(33), callsText(33));
        String sum = "-(".repeat(24) + "-(-128)" + " + -(-128))".repeat(24);
        dueLongTerm("0 -128 5 0" + " 0 -128 5 0 4 0 5 0".repeat(24), sum);
    }

    private static void noSuchSignOfATerm() {
        TermPile x = Check.told("0 -128 1 0");
        for (int i : new int[] {-1, -2, 4, 5, 1000, Integer.MIN_VALUE, Integer.MAX_VALUE}) {
            Check.due("sign " + i, x.term(0, i), -1);
        }
        Check.due("sign 1 of a", x.term(1, 1), -1);
    }

    private static void noSuchPlace() {
        TermPile x = Check.told("1 0 2 0 1 1 1 2");
        Check.due("place 1", x.term(1, 0), 'c');
        Check.due("place 2", x.term(2, 0), -1);
        for (int k : WRONG_PLACES) {
            Check.due("place " + k, x.term(k, 0), -1);
            Check.due("place " + k + " of a full pile", Check.numbers(20).term(k, 0), -1);
        }
        Check.due("an empty pile", Check.told("1 0 6 0").term(0, 0), -1);
    }

    // ---- promise 5

    private static void valuesAtFirst() {
        TermPile x = new TermPile();
        for (int v = 0; v <= 9; v++) {
            Check.due("give " + v, x.give(v, v % 2 == 0 ? LEAST + v : MOST - v), true);
            x.act(1, v);
        }
        Check.dueSame("each variable", x);
        for (int v = 0; v <= 9; v++) {
            Check.due("left " + v, x.left(0, v), v % 2 == 0 ? LEAST + v : MOST - v);
        }
        Check.due("given again", x.give(0, 3), true);
        Check.dueSame("given again", x);
        Check.due("a, given again", x.left(0, 0), 3);
        Check.due("b stays", x.left(0, 1), MOST - 1);
    }

    private static void all0Without() {
        TermPile x = Check.variables(10);
        Check.dueSame("nothing is given", x);
        for (int v = 0; v <= 9; v++) {
            Check.due("left " + v, x.left(0, v), 0);
        }
        x.give(4, 4);
        Check.dueSame("e is given", x);
        for (int v = 0; v <= 9; v++) {
            Check.due("left " + v, x.left(0, v), v == 4 ? 4 : 0);
        }
    }

    private static void eachRunBeginsAnew() {
        TermPile x = Check.told("3 133 1 1 0 2 4 2 2 1");
        x.give(0, 10);
        x.give(1, 3);
        for (int again = 0; again < 3; again++) {
            Check.dueSame("run again", x);
            Check.due("a", x.value(0, 0), 15);
            Check.due("b", x.value(0, 1), 6);
        }
    }

    private static void noVariableToGive() {
        TermPile x = new TermPile();
        Check.due("give 0", x.give(0, 1), true);
        Check.due("give 9", x.give(9, 1), true);
        for (int v : Check.WRONG_VARIABLES) {
            Check.due("give " + v, x.give(v, 77), false);
        }
        Check.due("a", x.value(0, 0), 1);
        Check.due("b", x.value(0, 1), 0);
        Check.due("j", x.value(0, 9), 1);
    }

    // ---- promise 6

    private static void runsOneSide() {
        for (int side = 0; side <= 1; side++) {
            int other = 1 - side;
            TermPile x = Check.told("3 129 10 0");
            Check.due("run " + side, x.run(side), 0);
            Check.due("a of the side that ran", x.value(side, 0), 1);
            Check.due("a of the other one", x.value(other, 0), 0);
            Check.due("left of the side that ran", Check.leftOf(x, side), "[31]");
            Check.due("left of the other one", Check.leftOf(x, other), "[]");
            Check.due("calls of the side that ran", x.count(4 + side), 1);
            Check.due("calls of the other one", x.count(4 + other), 0);
        }
    }

    private static void failureTellsTheCalls() {
        for (int op = 6; op <= 7; op++) {
            for (int calls = 0; calls <= 40; calls += calls < 3 ? 1 : 37) {
                String acts = "10 0 6 0 ".repeat(calls) + "0 1 0 0 4 " + op + " 10 1 2 0";
                TermPile x = Check.told(acts);
                Check.due("acts behind " + calls + " calls", x.run(0), calls + 1);
                Check.due("lines behind " + calls + " calls", x.run(1), calls + 1);
            }
        }
        TermPile given = Check.told("10 0 2 0 1 0 1 1 4 6 2 2");
        Check.due("b is 0", given.run(0), 2);
        given.give(1, 31);
        Check.due("b is 31", given.run(0), 0);
        Check.due("c", given.value(0, 2), 1);
        given.give(1, 0);
        Check.due("b is 0 again", given.run(0), 2);
    }

    private static void runsWhatIsToldByThen() {
        TermPile x = Check.told("0 4 0 5");
        Check.dueLeft("4, 5", x, 4L, 5L);
        x.act(4, 2);
        Check.dueLeft("4 * 5", x, 20L);
        x.act(2, 0);
        Check.dueLeft("a = 4 * 5;", x);
        Check.due("a", x.value(1, 0), 20);
    }

    private static void noSideToRun() {
        for (int side : Check.WRONG_SIDES) {
            Check.dueThrown("run " + side, () -> new TermPile().run(side), Check.ARGUMENT);
            TermPile fails = Check.told("0 1 0 0 4 6");
            Check.dueThrown("run " + side + ", failure", () -> fails.run(side), Check.ARGUMENT);
        }
    }

    // ---- promise 7

    private static void valueBehindTheLatestRun() {
        TermPile x = Check.told("3 138");
        x.give(0, 2);
        x.run(0);
        x.give(0, 50);
        Check.due("behind the run of the acts", x.value(0, 0), 12);
        x.run(1);
        Check.due("behind the run of the lines", x.value(1, 0), 60);
        Check.due("the acts' value stays", x.value(0, 0), 12);
        x.act(3, 138);
        Check.due("an act changes no value", x.value(1, 0), 60);
        x.run(1);
        Check.due("the latest run", x.value(1, 0), 70);
        Check.due("j", x.value(1, 9), 0);
    }

    private static void valueAheadOfARun() {
        TermPile x = Check.told("3 138");
        for (int side = 0; side <= 1; side++) {
            Check.due("without any", x.value(side, 0), 0);
        }
        for (int v = 0; v <= 9; v++) {
            x.give(v, LEAST + v);
            Check.due("given " + v, x.value(0, v), LEAST + v);
            Check.due("given " + v, x.value(1, v), LEAST + v);
        }
        x.give(0, 7);
        Check.due("given again", x.value(0, 0), 7);
        x.run(0);
        x.give(0, 8);
        Check.due("the other side has not run", x.value(1, 0), 8);
    }

    private static void valueBehindAFailure() {
        for (int side = 0; side <= 1; side++) {
            TermPile x = Check.told("0 4 2 1 0 1 1 9 4 6 2 1 3 129");
            x.give(0, 3);
            Check.due("failure", x.run(side), 1);
            Check.due("set ahead of the failure", x.value(side, 1), 4);
            Check.due("not grown behind it", x.value(side, 0), 3);
            x.give(9, 1);
            Check.due("no failure", x.run(side), 0);
            Check.due("b", x.value(side, 1), 1);
            Check.due("a", x.value(side, 0), 4);
        }
    }

    private static void noSuchVariableOrSide() {
        TermPile ahead = Check.told("3 129");
        TermPile behind = Check.told("3 129");
        behind.run(0);
        behind.run(1);
        for (TermPile x : new TermPile[] {ahead, behind}) {
            for (int v = 0; v <= 9; v++) {
                int right = v;
                Check.dueThrown("value 0 of variable " + v, () -> x.value(0, right), Check.NOTHING);
                Check.dueThrown("value 1 of variable " + v, () -> x.value(1, right), Check.NOTHING);
            }
            for (int side : Check.WRONG_SIDES) {
                Check.dueThrown("value of side " + side, () -> x.value(side, 0), Check.INDEX);
                Check.dueThrown("value of side " + side, () -> x.value(side, 10), Check.INDEX);
            }
            for (int v : Check.WRONG_VARIABLES) {
                Check.dueThrown("value 0 of variable " + v, () -> x.value(0, v), Check.INDEX);
                Check.dueThrown("value 1 of variable " + v, () -> x.value(1, v), Check.INDEX);
            }
        }
    }

    // ---- promise 8

    private static void leftBehindTheLatestRun() {
        TermPile x = Check.told("3 128 0 4 1 0");
        x.give(0, 5);
        x.run(0);
        x.run(1);
        x.give(0, 6);
        x.act(4, 0);
        Check.due("a sign of the term", x.term(0, 0), '4');
        Check.due("a sign of the line", x.line(0, 0), 'a');
        for (int side = 0; side <= 1; side++) {
            Check.due("no call but run changes it", Check.leftOf(x, side), "[4, 5]");
        }
        x.run(1);
        Check.due("the latest run of the lines", Check.leftOf(x, 1), "[10]");
        Check.due("the acts have not run again", Check.leftOf(x, 0), "[4, 5]");
        x.act(2, 0);
        x.run(0);
        Check.due("nothing is left any more", Check.leftOf(x, 0), "[]");
    }

    private static void twentyAreLeft() {
        TermPile full = Check.numbers(20);
        full.run(0);
        full.run(1);
        for (int k = 0; k < 20; k++) {
            Check.due("place " + k + " of the acts", full.left(0, k), k);
            Check.due("place " + k + " of the lines", full.left(1, k), k);
        }
        TermPile high = Check.told("0 1 ".repeat(17) + "1 0 1 1 1 1 4 2 4 0");
        high.give(0, 5);
        high.give(1, 3);
        Check.dueSame("worked at the pile's end", high);
        Check.due("a + b * b", high.left(1, 17), 14);
    }

    private static void noneAtAPlace() {
        TermPile x = Check.told("0 4 0 5");
        x.run(0);
        x.run(1);
        for (int side = 0; side <= 1; side++) {
            dueNone(x, side, 2);
            for (int k : WRONG_PLACES) {
                dueNone(x, side, k);
            }
        }
        TermPile full = Check.numbers(20);
        full.run(0);
        for (int k : WRONG_PLACES) {
            dueNone(full, 0, k);
        }
        for (int side : Check.WRONG_SIDES) {
            dueNone(x, side, 0);
        }
    }

    private static void noneAheadOfARun() {
        TermPile x = Check.told("0 4 0 5");
        dueNone(x, 0, 0);
        dueNone(x, 1, 0);
        x.run(0);
        dueNone(x, 1, 0);
        x.run(1);
        Check.due("behind its run", x.left(1, 1), 5);
    }

    private static void noneBehindAFailure() {
        for (int side = 0; side <= 1; side++) {
            TermPile x = Check.told("0 4 0 5 0 1 1 0 4 7 0 6");
            x.give(0, 3);
            x.run(side);
            Check.due("no failure", Check.leftOf(x, side), "[4, 5, 1, 6]");
            x.give(0, 0);
            x.run(side);
            for (int k = 0; k <= 4; k++) {
                dueNone(x, side, k);
            }
            x.give(0, 1);
            x.run(side);
            Check.due("no failure any more", Check.leftOf(x, side), "[4, 5, 0, 6]");
            TermPile early = Check.told("0 1 1 0 4 7 2 1 0 4 0 5");
            Check.due("a failure ahead of all that lies there", early.run(side), 1);
            dueNone(early, side, 0);
            dueNone(early, side, 1);
        }
    }

    private static void dueNone(TermPile x, int side, int k) {
        Check.dueThrown("left(" + side + ", " + k + ")", () -> x.left(side, k), Check.INDEX);
    }

    // ---- promise 9

    private static void dueCounts(String when, TermPile x, int... counts) {
        for (int what = 0; what < counts.length; what++) {
            Check.due(when + ": count " + what, x.count(what), counts[what]);
        }
    }

    private static void counts() {
        TermPile x = Check.told("1 0 10 0 10 0 3 129 10 1 10 2 0 7");
        Check.dueTexts("counted", x, "t0 = a; t1 = f(); t2 = f(); a += 1;", "t0 | f(t1, f(t2)) | 7");
        dueCounts("ahead of a run", x, 7, 4, 3, 3, 0, 0);
        x.run(1);
        dueCounts("the lines have run", x, 7, 4, 3, 3, 0, 4);
        x.run(0);
        dueCounts("both have run", x, 7, 4, 3, 3, 4, 4);
        x.act(10, 0);
        dueCounts("an act runs nothing", x, 8, 5, 4, 4, 4, 4);
        x.run(1);
        x.run(1);
        dueCounts("the latest run counts", x, 8, 5, 4, 4, 4, 5);
    }

    private static void mostThatIsCounted() {
        TermPile lines = new TermPile();
        for (int k = 0; k < 100; k++) {
            lines.act(3, 0);
        }
        dueCounts("100 lines", lines, 100, 100, 0, 0, 0, 0);
        dueCounts("20 terms", Check.variables(20), 20, 0, 0, 20, 0, 0);
        dueCounts("20 calls", Check.told("10 0" + " 10 0".repeat(19)), 20, 19, 19, 20, 0, 0);
        TermPile x = Check.told("10 0 ".repeat(18) + "10 0 10 0 10 3 ".repeat(27) + "3 129");
        // Put out are 17 calls at first, two of each three that follow, and the last one.
        int temporaries = 17 + 2 * 27 + 1;
        dueCounts("many temporaries", x, 100, temporaries + 1, temporaries, 18, 0, 0);
        Check.due("the last temporary", Check.term(x, 17), "t71");
        Check.dueSame("many temporaries", x);
        dueCounts("many calls", x, 100, temporaries + 1, temporaries, 18, 99, 99);
    }

    private static void callsOfTheLatestRun() {
        TermPile x = Check.told("10 0 2 1 0 5 1 0 4 6 10 1 2 1");
        x.give(0, 1);
        x.run(0);
        x.run(1);
        dueCounts("no failure", x, 7, 2, 0, 0, 2, 2);
        x.give(0, 0);
        x.run(1);
        dueCounts("a failure behind one call", x, 7, 2, 0, 0, 2, 1);
        x.run(0);
        dueCounts("and of the acts", x, 7, 2, 0, 0, 1, 1);
        TermPile none = Check.told("3 129");
        none.run(0);
        none.run(1);
        dueCounts("a run without a call", none, 1, 1, 0, 0, 0, 0);
    }

    private static void anotherWhat() {
        TermPile x = Check.told("10 0");
        x.run(0);
        x.run(1);
        for (int what : new int[] {-1, -2, 6, 7, 100, Integer.MIN_VALUE, Integer.MAX_VALUE}) {
            Check.due("count " + what, x.count(what), -1);
        }
    }
}
