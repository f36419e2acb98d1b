import java.util.ArrayList;
import java.util.List;

/** For each promise of the document: ordinary inputs, the edges that it names, wrong inputs. */
public final class PromiseTests {
    private static int wrong = 0;

    private static final int[] WRONG_SIDES = {-1, 2, 3, Integer.MIN_VALUE, Integer.MAX_VALUE};
    private static final int[] WRONG_VARIABLES = {-1, 10, Integer.MIN_VALUE, Integer.MAX_VALUE};

    public static void main(String[] args) {
        aNewObject();
        actCountsAndRefusesWrongNumbers();
        actRefusesWhatCannotBeDone();
        actRefusesTheHundredAndFirst();
        refusedActsChangeNothing();
        linesOfEachKind();
        linesPutOutAheadOfAnAct();
        turnsOfThePile();
        noSignOutsideALine();
        signsOfTerms();
        brackets();
        deepTerms();
        longTexts();
        giveSetsWhatRunsBeginWith();
        runOfEachKind();
        runOfCalls();
        runOfTheTermsThatAreLeft();
        failures();
        valueBehindTheLatestRun();
        leftBehindTheLatestRun();
        counts();
        System.out.println(wrong == 0 ? "all promises hold" : wrong + " answers are not as due");
        if (wrong != 0) {
            System.exit(1);
        }
    }

    // ---- promise 1

    private static void aNewObject() {
        TermPile x = new TermPile();
        due("NONE", TermPile.NONE, -1);
        for (int what = 0; what <= 5; what++) {
            due("new: count " + what, x.count(what), 0);
        }
        due("new: line", x.line(0, 0), -1);
        due("new: term", x.term(0, 0), -1);
        for (int side = 0; side <= 1; side++) {
            due("new: value", x.value(side, 9), 0);
            dueNothingLeft("new", x, side, 0);
            due("new: run", x.run(side), 0);
            dueNothingLeft("new, run", x, side, 0);
        }
        TermPile other = new TermPile();
        x.act(0, 1);
        due("objects share nothing", other.count(0), 0);
    }

    // ---- promise 2

    private static void actCountsAndRefusesWrongNumbers() {
        int[] least = {-128, 0, 0, 0, 0, 0, 0, 0, 0, 0, 0};
        int[] most = {127, 9, 9, 2559, 7, 0, 0, 0, 0, 0, 3};
        for (int kind = 0; kind <= 10; kind++) {
            TermPile x = told("0 1 0 2 0 3");
            due("act of kind " + kind, x.act(kind, least[kind]), 4);
            due("act of kind " + kind + ", most", told("0 1 0 2 0 3").act(kind, most[kind]), 4);
            dueWrongAct(x, kind, least[kind] - 1);
            dueWrongAct(x, kind, most[kind] + 1);
            dueWrongAct(x, kind, Integer.MIN_VALUE);
            dueWrongAct(x, kind, Integer.MAX_VALUE);
        }
        TermPile x = new TermPile();
        for (int kind : new int[] {-1, 11, 12, 13, Integer.MIN_VALUE, Integer.MAX_VALUE}) {
            dueWrongAct(x, kind, 0);
        }
    }

    private static void actRefusesWhatCannotBeDone() {
        int[] takes = {0, 0, 1, 0, 2, 1, 1, 1, 2, 2};
        int[] more = {1, 1, -1, 0, -1, 0, -1, 1, 0, 1};
        for (int kind = 0; kind <= 9; kind++) {
            dueTakes(kind, 0, takes[kind]);
            dueOnFullPile(kind, 0, more[kind]);
        }
        for (int n = 0; n <= 3; n++) {
            dueTakes(10, n, n);
            dueOnFullPile(10, n, 1 - n);
        }
        due("wrong number told ahead of too few", thrownByAct(new TermPile(), 6, 1), "argument");
        due("wrong number told ahead of too many", thrownByAct(withNumbers(20), 0, 128), "argument");
    }

    private static void dueTakes(int kind, int n, int takes) {
        if (takes > 0) {
            TermPile few = withNumbers(takes - 1);
            due("too few for " + kind + " " + n, thrownByAct(few, kind, n), "state");
            due("too few for " + kind + " " + n + ": acts", few.count(0), takes - 1);
        }
        due("enough for " + kind + " " + n, withNumbers(takes).act(kind, n), takes + 1);
    }

    private static void dueOnFullPile(int kind, int n, int more) {
        TermPile full = withNumbers(20);
        String name = "pile of 20, act " + kind + " " + n;
        if (more > 0) {
            due(name, thrownByAct(full, kind, n), "state");
            due(name + ": terms", full.count(3), 20);
        } else {
            due(name, full.act(kind, n), 21);
            due(name + ": terms", full.count(3), 20 + more);
        }
        due("pile of 19, act " + kind + " " + n, withNumbers(19).act(kind, n), 20);
    }

    private static void actRefusesTheHundredAndFirst() {
        TermPile x = new TermPile();
        for (int k = 1; k <= 100; k++) {
            due("act " + k, x.act(3, 129), k);
        }
        due("act 101", thrownByAct(x, 3, 129), "state");
        due("act 101 that is none", thrownByAct(x, 11, 0), "argument");
        due("acts", x.count(0), 100);
        due("lines", x.count(1), 100);
        due("the last line", lineText(x, 99), "a += 1;");
        x.run(0);
        x.run(1);
        due("a of the acts", x.value(0, 0), 100);
        due("a of the lines", x.value(1, 0), 100);
    }

    private static void refusedActsChangeNothing() {
        TermPile x = told("1 0 1 1 4 0");
        due("refused 4", thrownByAct(x, 4, 0), "state");
        due("refused 8", thrownByAct(x, 8, 0), "state");
        due("refused 9", thrownByAct(x, 9, 0), "state");
        due("refused 10 2", thrownByAct(x, 10, 2), "state");
        due("refused 3", thrownByAct(x, 3, 2560), "argument");
        dueTexts("behind refusals", x, "", "a + b");
        due("acts behind refusals", x.count(0), 3);
        due("temporaries behind refusals", x.count(2), 0);
        TermPile full = withNumbers(19);
        full.act(1, 0);
        due("refused 7", thrownByAct(full, 7, 0), "state");
        due("refused 10 0", thrownByAct(full, 10, 0), "state");
        due("lines behind refused 7 and 10", full.count(1), 0);
        due("term behind refused 7 and 10", termText(full, 19), "a");
    }

    // ---- promise 3

    private static void linesOfEachKind() {
        dueTexts("2", told("0 -5 2 9"), "j = -5;", "");
        dueTexts("3", told("3 0 3 128 3 255 3 2559 3 2304"),
                "a += -128; a += 0; a += 127; j += 127; j += -128;", "");
        dueTexts("6", told("1 2 6 0"), "drop c;", "");
        dueTexts("2 of a term", told("1 0 1 1 4 0 0 -5 4 2 2 2"), "c = (a + b) * -5;", "");
        dueTexts("no line", told("0 1 1 2 4 1 5 0 10 1"), "", "f(-(1 - c))");
    }

    private static void linesPutOutAheadOfAnAct() {
        dueTexts("2, below", told("1 0 1 1 0 7 1 2 2 0"), "t0 = a; t1 = b; a = c;", "t0 | t1 | 7");
        dueTexts("6, below", told("1 0 1 1 5 0 6 0"), "t0 = a; drop -b;", "t0");
        dueTexts("3, all", told("0 3 1 0 0 4 5 0 3 129"), "t0 = a; t1 = -(4); a += 1;", "3 | t0 | t1");
        dueTexts("10, below", told("1 0 1 1 1 2 10 2"), "t0 = a;", "t0 | f(b, c)");
        dueTexts("10 0, all", told("1 0 10 0"), "t0 = a;", "t0 | f()");
        dueTexts("calls in order", told("10 0 10 0 10 2"), "t0 = f();", "f(t0, f())");
        dueTexts("7", told("1 0 1 1 7 0"), "t0 = a; t1 = b;", "t0 | t1 | t1");
        dueTexts("8", told("1 0 1 1 1 2 8 0"), "t0 = a; t1 = b; t2 = c;", "t0 | t2 | t1");
        dueTexts("9", told("1 0 1 1 1 2 9 0"), "t0 = a; t1 = b; t2 = c;", "t0 | t2 | t1 | t2");
        dueTexts("0, 1, 4, 5 put nothing out", told("1 0 0 1 1 1 4 0 5 0"), "", "a | -(1 + b)");
        dueTexts("a term with a temporary is put out", told("1 0 7 0 5 0 3 128"),
                "t0 = a; t1 = -t0; a += 0;", "t0 | t1");
        dueTexts("what was moved down stays whole",
                told("1 0 1 1 4 0 1 2 1 3 4 2 1 4 1 5 4 1 10 2"),
                "t0 = a + b;", "t0 | f(c * d, e - f)");
        dueTexts("and is taken whole", told("1 0 1 1 4 0 1 2 1 3 4 2 10 1 4 0 2 0"),
                "t0 = a + b; a = t0 + f(c * d);", "");
    }

    private static void turnsOfThePile() {
        dueTexts("numbers stay", told("0 1 0 2 7 0 8 0 9 0"), "", "1 | 2 | 2 | 2");
        dueTexts("swap", told("0 1 0 2 0 3 8 0"), "", "1 | 3 | 2");
        dueTexts("tuck", told("0 1 0 2 0 3 9 0"), "", "1 | 3 | 2 | 3");
        dueTexts("double", told("0 1 0 2 7 0"), "", "1 | 2 | 2");
        dueTexts("temporaries stay", told("1 0 7 0 8 0 9 0 7 0"), "t0 = a;", "t0 | t0 | t0 | t0");
        dueTexts("turned ones join", told("1 0 7 0 4 2 0 3 8 0 4 1"), "t0 = a; t1 = t0 * t0;", "3 - t1");
    }

    private static void noSignOutsideALine() {
        TermPile x = told("1 0 2 1 1 2");
        due("first sign", x.line(0, 0), 'b');
        due("last sign", x.line(0, 5), ';');
        for (int i : new int[] {-1, 6, 7, Integer.MIN_VALUE, Integer.MAX_VALUE}) {
            due("sign " + i, x.line(0, i), -1);
        }
        for (int k : new int[] {-1, 1, 2, 100, Integer.MIN_VALUE, Integer.MAX_VALUE}) {
            due("line " + k, x.line(k, 0), -1);
        }
    }

    // ---- promise 4

    private static void signsOfTerms() {
        TermPile x = told("1 0 1 1 4 0 0 -128");
        due("term 0", termText(x, 0), "a + b");
        due("term 1", termText(x, 1), "-128");
        due("behind the term", x.term(0, 5), -1);
        for (int i : new int[] {-1, 4, Integer.MIN_VALUE, Integer.MAX_VALUE}) {
            due("sign " + i, x.term(1, i), -1);
        }
        for (int k : new int[] {-1, 2, 20, Integer.MIN_VALUE, Integer.MAX_VALUE}) {
            due("place " + k, x.term(k, 0), -1);
        }
        for (int v = 0; v <= 9; v++) {
            due("variable " + v, termText(told("1 " + v), 0), String.valueOf((char) ('a' + v)));
        }
        String[] ops = {"+", "-", "*", "&", "|", "^", "/", "%"};
        for (int op = 0; op < 8; op++) {
            due("op " + op, termText(told("1 0 1 1 4 " + op), 0), "a " + ops[op] + " b");
        }
        due("call of 0", termText(told("10 0"), 0), "f()");
        due("call of 1", termText(told("1 0 10 1"), 0), "f(a)");
        due("call of 3", termText(told("1 0 1 1 4 4 0 -1 1 2 5 0 10 3"), 0), "f(a | b, -1, -c)");
        due("place 19", termText(withNumbers(20), 19), "19");
    }

    private static void brackets() {
        int[] rank = {3, 3, 4, 2, 0, 1, 4, 4};
        String signs = "+-*&|^/%";
        for (int in = 0; in < 8; in++) {
            for (int out = 0; out < 8; out++) {
                String part = "a " + signs.charAt(in) + " b";
                String left = rank[in] < rank[out] ? "(" + part + ")" : part;
                String right = rank[in] <= rank[out] ? "(" + part + ")" : part;
                String made = termText(told("1 0 1 1 4 " + in + " 1 2 4 " + out), 0);
                due("left one", made, left + " " + signs.charAt(out) + " c");
                made = termText(told("1 2 1 0 1 1 4 " + in + " 4 " + out), 0);
                due("right one", made, "c " + signs.charAt(out) + " " + right);
            }
            String behind = termText(told("1 0 1 1 4 " + in + " 5 0"), 0);
            due("behind -", behind, "-(a " + signs.charAt(in) + " b)");
            String sides = termText(told("1 0 5 0 1 1 5 0 4 " + in), 0);
            due("- beside an op", sides, "-a " + signs.charAt(in) + " -b");
            String numbers = termText(told("0 -1 0 -2 4 " + in), 0);
            due("numbers beside an op", numbers, "-1 " + signs.charAt(in) + " -2");
        }
        due("- of a number", termText(told("0 7 5 0"), 0), "-(7)");
        due("- of a number below 0", termText(told("0 -7 5 0"), 0), "-(-7)");
        due("- of -", termText(told("1 0 5 0 5 0"), 0), "-(-a)");
        due("- of a variable", termText(told("1 0 5 0"), 0), "-a");
        due("- of a temporary", termText(told("1 0 7 0 5 0"), 1), "-t0");
        due("- of a call", termText(told("1 0 1 1 4 0 10 1 5 0"), 0), "-f(a + b)");
        due("call beside an op", termText(told("1 0 5 0 10 1 1 1 4 2"), 0), "f(-a) * b");
    }

    private static void deepTerms() {
        TermPile x = told("1 0");
        StringBuilder text = new StringBuilder("-a");
        x.act(5, 0);
        for (int k = 0; k < 97; k++) {
            x.act(5, 0);
            text.insert(0, "-(").append(')');
        }
        due("98 times -", termText(x, 0), text.toString());
        x.act(2, 1);
        due("98 times - in a line", lineText(x, 0), "b = " + text + ";");
        x.give(0, 5);
        due("98 times -: run", x.run(1), 0);
        due("98 times -: b", x.value(1, 1), 5);
    }

    private static void longTexts() {
        TermPile calls = new TermPile();
        StringBuilder text = new StringBuilder("-128");
        calls.act(0, -128);
        for (int k = 0; k < 33; k++) {
            calls.act(0, -128);
            calls.act(0, -128);
            calls.act(10, 3);
            text.insert(0, "f(").append(", -128, -128)");
        }
        due("33 calls", termText(calls, 0), text.toString());
        TermPile ops = new TermPile();
        text = new StringBuilder("-(-128)");
        ops.act(0, -128);
        ops.act(5, 0);
        for (int k = 0; k < 24; k++) {
            ops.act(0, -128);
            ops.act(5, 0);
            ops.act(4, 0);
            ops.act(5, 0);
            text.insert(0, "-(").append(" + -(-128))");
        }
        ops.act(2, 0);
        due("24 sums", lineText(ops, 0), "a = " + text + ";");
        dueSame("24 sums", ops);
    }

    // ---- promise 5

    private static void giveSetsWhatRunsBeginWith() {
        TermPile x = new TermPile();
        for (int v = 0; v <= 9; v++) {
            due("give " + v, x.give(v, Long.MIN_VALUE + v), true);
        }
        for (int v : WRONG_VARIABLES) {
            due("give " + v, x.give(v, 77), false);
        }
        for (int v = 0; v <= 9; v++) {
            due("given " + v, x.value(0, v), Long.MIN_VALUE + v);
            x.act(1, v);
        }
        x.run(0);
        x.run(1);
        for (int v = 0; v <= 9; v++) {
            due("run with " + v, x.left(0, v), Long.MIN_VALUE + v);
            due("lines run with " + v, x.left(1, v), Long.MIN_VALUE + v);
        }
        TermPile again = told("3 133");
        again.give(0, 10);
        again.run(0);
        again.run(0);
        due("each run begins anew", again.value(0, 0), 15);
    }

    // ---- promise 6

    private static void runOfEachKind() {
        long[] results = {2, -16, -63, 9, -7, -16, 0, -7};
        for (int op = 0; op < 8; op++) {
            dueLeft("-7 op 9, " + op, told("0 -7 0 9 4 " + op), results[op]);
        }
        dueLeft("/ towards 0", told("0 -7 0 2 4 6"), -3);
        dueLeft("/ towards 0, below", told("0 7 0 -2 4 6"), -3);
        dueLeft("% with /", told("0 -7 0 2 4 7"), -1);
        dueLeft("% with /, below", told("0 7 0 -2 4 7"), 1);
        dueLeft("5", told("0 -128 5 0"), 128);
        dueLeft("6", told("0 1 0 2 6 0"), 1);
        dueLeft("7", told("0 1 0 2 7 0"), 1, 2, 2);
        dueLeft("8", told("0 1 0 2 0 3 8 0"), 1, 3, 2);
        dueLeft("9", told("0 1 0 2 0 3 9 0"), 1, 3, 2, 3);
        TermPile x = told("3 0 0 12 2 9 3 2559 1 9 1 0");
        dueLeft("2 and 3", x, 139, -128);
        TermPile round = told("1 0 0 -1 4 6 1 0 0 -1 4 7 1 0 5 0 1 1 0 1 4 0 1 1 7 0 4 2 3 127 1 0");
        round.give(0, Long.MIN_VALUE);
        round.give(1, Long.MAX_VALUE);
        dueLeft("numbers go round", round,
                Long.MIN_VALUE, 0, Long.MIN_VALUE, Long.MIN_VALUE, 1, Long.MAX_VALUE);
        for (int side : WRONG_SIDES) {
            due("run " + side, thrown(() -> x.run(side)), "argument");
        }
    }

    private static void runOfCalls() {
        dueLeft("call of 0", told("10 0"), 31);
        dueLeft("call of 1", told("0 5 10 1"), 36);
        dueLeft("call of 2", told("0 5 0 7 10 2"), 57);
        dueLeft("call of 3", told("0 5 0 7 0 -1 10 3"), 48);
        dueLeft("calls are counted", told("10 0 10 0 10 0"), 31, 62, 93);
        dueLeft("the inner call is ahead", told("10 0 10 0 10 2"), 31 * 3 + 31 + 3 * 62);
        TermPile x = told("10 0 10 0 4 1 2 0 10 0");
        for (int again = 0; again < 2; again++) {
            dueLeft("each run counts from 1 on", x, 93);
            due("a", x.value(1, 0), -31);
        }
        TermPile round = told("1 0 1 0 1 0 10 3");
        round.give(0, Long.MAX_VALUE);
        dueLeft("calls go round", round, 31 + 13 * Long.MAX_VALUE);
    }

    private static void runOfTheTermsThatAreLeft() {
        TermPile x = told("1 0 3 129 1 0 10 0 1 1");
        x.give(0, 8);
        x.give(1, -3);
        dueLeft("old and new a, a call", x, 8, 9, 31, -3);
        x.act(4, 2);
        dueLeft("told on behind a run", x, 8, 9, -93);
    }

    private static void failures() {
        for (int op = 6; op <= 7; op++) {
            TermPile x = told("0 4 2 1 1 0 1 2 4 " + op + " 0 9 2 1");
            due("acts fail, " + op, x.run(0), 1);
            due("lines fail, " + op, x.run(1), 1);
            dueNothingLeft("acts failed", x, 0, 0);
            dueNothingLeft("lines failed", x, 1, 0);
            due("b of the acts as it was", x.value(0, 1), 4);
            due("b of the lines as it was", x.value(1, 1), 4);
            x.give(2, 1);
            dueSame("no failure any more", x);
            due("b now", x.value(1, 1), 9);
        }
        TermPile calls = told("10 0 10 0 2 0 0 5 1 9 4 6 10 1 2 1");
        due("acts fail behind 2 calls", calls.run(0), 3);
        due("lines fail behind 2 calls", calls.run(1), 3);
        due("calls of the acts", calls.count(4), 2);
        due("calls of the lines", calls.count(5), 2);
        due("a of the lines", calls.value(1, 0), 62);
        TermPile left = told("10 0 0 1 0 0 4 7");
        due("a term that is left fails", left.run(1), 2);
        due("the act fails", left.run(0), 2);
        dueNothingLeft("a left term failed", left, 1, 0);
        TermPile dropped = told("0 1 0 0 4 6 6 0 3 129");
        due("a dropped failure", dropped.run(1), 1);
        due("what is behind it is not done", dropped.value(1, 0), 0);
    }

    // ---- promise 7

    private static void valueBehindTheLatestRun() {
        TermPile x = told("3 138");
        x.give(0, 1);
        due("ahead of a run", x.value(0, 0), 1);
        x.give(0, 2);
        due("ahead of a run, given again", x.value(1, 0), 2);
        x.run(0);
        x.give(0, 50);
        due("behind the run of the acts", x.value(0, 0), 12);
        due("ahead of the run of the lines", x.value(1, 0), 50);
        x.run(1);
        due("behind the run of the lines", x.value(1, 0), 60);
        x.act(3, 138);
        due("an act changes no value", x.value(1, 0), 60);
        due("the acts' value stays", x.value(0, 0), 12);
        for (int side : WRONG_SIDES) {
            due("value of side " + side, thrown(() -> x.value(side, 0)), "index");
        }
        for (int v : WRONG_VARIABLES) {
            due("value of variable " + v, thrown(() -> x.value(0, v)), "index");
            due("value of variable " + v, thrown(() -> x.value(1, v)), "index");
        }
    }

    // ---- promise 8

    private static void leftBehindTheLatestRun() {
        TermPile x = told("0 4 0 5");
        dueNothingLeft("ahead of a run", x, 0, 0);
        x.run(0);
        due("place 0", x.left(0, 0), 4);
        due("place 1", x.left(0, 1), 5);
        dueNothingLeft("the other side", x, 1, 0);
        for (int k : new int[] {-1, 2, 20, Integer.MIN_VALUE, Integer.MAX_VALUE}) {
            dueNothingLeft("place " + k, x, 0, k);
        }
        x.act(4, 0);
        due("an act changes nothing that is left", x.left(0, 1), 5);
        x.run(1);
        due("the lines' place 0", x.left(1, 0), 9);
        dueNothingLeft("the lines' place 1", x, 1, 1);
        for (int side : WRONG_SIDES) {
            dueNothingLeft("side " + side, x, side, 0);
        }
        TermPile full = withNumbers(20);
        full.run(0);
        full.run(1);
        due("place 19 of the acts", full.left(0, 19), 19);
        due("place 19 of the lines", full.left(1, 19), 19);
    }

    // ---- promise 9

    private static void counts() {
        TermPile x = told("1 0 10 0 10 0 3 129 10 1 10 2 0 7");
        dueTexts("counted", x, "t0 = a; t1 = f(); t2 = f(); a += 1;", "t0 | f(t1, f(t2)) | 7");
        dueCounts("ahead of a run", x, 7, 4, 3, 3, 0, 0);
        x.run(1);
        dueCounts("the lines have run", x, 7, 4, 3, 3, 0, 4);
        x.run(0);
        dueCounts("both have run", x, 7, 4, 3, 3, 4, 4);
        x.act(10, 0);
        dueCounts("an act runs nothing", x, 8, 5, 4, 4, 4, 4);
        x.run(1);
        x.run(1);
        dueCounts("the latest run counts", x, 8, 5, 4, 4, 4, 5);
        for (int what : new int[] {-1, 6, 7, Integer.MIN_VALUE, Integer.MAX_VALUE}) {
            due("count " + what, x.count(what), -1);
        }
    }

    private static void dueCounts(String when, TermPile x, int... counts) {
        for (int what = 0; what < counts.length; what++) {
            due(when + ": count " + what, x.count(what), counts[what]);
        }
    }

    // ---- helpers

    private interface Call {
        long answer();
    }

    private static TermPile told(String acts) {
        TermPile x = new TermPile();
        String[] words = acts.split(" ");
        for (int at = 0; at < words.length; at += 2) {
            x.act(Integer.parseInt(words[at]), Integer.parseInt(words[at + 1]));
        }
        return x;
    }

    private static TermPile withNumbers(int many) {
        TermPile x = new TermPile();
        for (int n = 0; n < many; n++) {
            x.act(0, n);
        }
        return x;
    }

    private static String lineText(TermPile x, int k) {
        StringBuilder text = new StringBuilder();
        for (int i = 0; x.line(k, i) != TermPile.NONE; i++) {
            text.append((char) x.line(k, i));
        }
        return text.toString();
    }

    private static String termText(TermPile x, int k) {
        StringBuilder text = new StringBuilder();
        for (int i = 0; x.term(k, i) != TermPile.NONE; i++) {
            text.append((char) x.term(k, i));
        }
        return text.toString();
    }

    private static String thrown(Call call) {
        try {
            call.answer();
            return "nothing";
        } catch (RuntimeException e) {
            // Only these classes themselves are due, not those below them.
            if (e.getClass() == IllegalArgumentException.class) {
                return "argument";
            }
            if (e.getClass() == IllegalStateException.class) {
                return "state";
            }
            return e.getClass() == IndexOutOfBoundsException.class ? "index" : e.toString();
        }
    }

    private static String thrownByAct(TermPile x, int kind, int n) {
        return thrown(() -> x.act(kind, n));
    }

    private static void dueWrongAct(TermPile x, int kind, int n) {
        int acts = x.count(0);
        due("act " + kind + " " + n, thrownByAct(x, kind, n), "argument");
        due("acts behind act " + kind + " " + n, x.count(0), acts);
    }

    private static void dueNothingLeft(String what, TermPile x, int side, int k) {
        due(what + ": left", thrown(() -> x.left(side, k)), "index");
    }

    private static void dueTexts(String what, TermPile x, String lines, String terms) {
        List<String> all = new ArrayList<>();
        for (int k = 0; k < x.count(1); k++) {
            all.add(lineText(x, k));
        }
        due(what + ": lines", String.join(" ", all), lines);
        all.clear();
        for (int k = 0; k < x.count(3); k++) {
            all.add(termText(x, k));
        }
        due(what + ": terms", String.join(" | ", all), terms);
    }

    private static void dueLeft(String what, TermPile x, long... values) {
        dueSame(what, x);
        due(what + ": how many are left", x.count(3), values.length);
        for (int k = 0; k < values.length; k++) {
            due(what + ": place " + k, x.left(0, k), values[k]);
        }
    }

    private static void dueSame(String what, TermPile x) {
        due(what + ": run of the acts", x.run(0), 0);
        due(what + ": run of the lines", x.run(1), 0);
        for (int v = 0; v <= 9; v++) {
            due(what + ": variable " + v + " of both", x.value(1, v), x.value(0, v));
        }
        for (int k = 0; k < x.count(3); k++) {
            due(what + ": place " + k + " of both", x.left(1, k), x.left(0, k));
        }
    }

    private static void due(String what, Object got, Object want) {
        if (!String.valueOf(got).equals(String.valueOf(want))) {
            wrong++;
            System.out.println(what + " answered " + got + ", due is " + want);
        }
    }

    private static void due(String what, long got, long want) {
        due(what, Long.valueOf(got), Long.valueOf(want));
    }
}
