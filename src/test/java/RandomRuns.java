import java.util.ArrayList;
import java.util.Arrays;
import java.util.List;
import java.util.function.Consumer;

/**
 * Many runs of calls, right and wrong ones mixed (the same ones each time), against a second
 * program that is written as plainly as the document; and the lines' texts, read back by the
 * common rules of brackets and worked, must do what the lines and the acts do.
 */
public final class RandomRuns {
    private static final int RUNS = 6000;
    private static final int LONGEST = 130;
    private static final int MOST_WRONG = 20;
    private static final String OPS = "+-*&|^/%";
    private static final int[] RANKS = {3, 3, 4, 2, 0, 1, 4, 4};

    /* No object is used for more calls, as the document does not say what those would answer. */
    private static final int MOST_CALLS = 512;
    private static final int CALLS_OF_BOTH_RUNS = 2 * (2 + 10 + 22);

    private static long seed = 20261115;

    public static void main(String[] args) {
        for (int run = 0; run < RUNS && Check.wrong() < MOST_WRONG; run++) {
            Check.about("run " + run + ": ");
            oneRun();
        }
        Check.end("all runs agree");
    }

    private static void oneRun() {
        Pile x = new Pile();
        Plain plain = new Plain();
        int calls = 1 + below(LONGEST);
        int favoured = below(3) == 0 ? below(11) : -1;
        for (int call = 0; call < calls; call++) {
            tellBoth(x, plain, favoured);
            if (below(12) == 0) {
                giveBoth(x, plain);
            }
            if (below(40) == 0) {
                compareRuns(x, plain);
            }
        }
        compareTexts(x, plain);
        compareRuns(x, plain);
    }

    private static void tellBoth(Pile x, Plain plain, int favoured) {
        int kind = favoured >= 0 && below(2) == 0 ? favoured : below(8) < 3 ? below(2) : below(11);
        int n = numberFor(kind);
        if (below(25) == 0) {
            kind = below(16) - 2;
            n = below(2) == 0 ? below(3000) - 200 : below(12) - 1;
        }
        String due = plain.tell(kind, n);
        Check.due("act(" + kind + ", " + n + ")", x.act(kind, n), due);
    }

    private static int numberFor(int kind) {
        switch (kind) {
            case 0:
                return below(4) == 0 ? below(256) - 128 : below(5) - 2;
            case 1:
            case 2:
                return below(3) == 0 ? below(10) : below(3);
            case 3:
                return below(2560);
            case 4:
                return below(8);
            case 10:
                return below(4);
            default:
                return 0;
        }
    }

    private static void giveBoth(Pile x, Plain plain) {
        int variable = below(12) - 1;
        long[] edges = {Long.MIN_VALUE, Long.MAX_VALUE, -1, 0, 1, below(1000) * 7919L * 104729L * 1299709L};
        long v = edges[below(edges.length)];
        boolean due = variable >= 0 && variable <= 9;
        Check.due("give(" + variable + ")", x.give(variable, v), due);
        if (due) {
            plain.given[variable] = v;
        }
    }

    private static void compareTexts(Pile x, Plain plain) {
        TermPile pile = x.forCalls(4);
        Check.due("count(0)", pile.count(0), plain.acts.size());
        Check.due("count(1)", pile.count(1), plain.lines.size());
        Check.due("count(2)", pile.count(2), plain.temporaries);
        Check.due("count(3)", pile.count(3), plain.pile.size());
        for (int k = 0; k <= plain.lines.size(); k++) {
            String due = k < plain.lines.size() ? plain.lines.get(k) : "";
            Check.due("line " + k, text(x, true, k, due.length()), due);
        }
        for (int k = 0; k <= plain.pile.size(); k++) {
            String due = k < plain.pile.size() ? plain.pile.get(k).text : "";
            Check.due("term " + k, text(x, false, k, due.length()), due);
        }
    }

    private static String text(Pile x, boolean line, int k, int length) {
        StringBuilder text = new StringBuilder();
        for (int i = -1; i <= length; i++) {
            int sign = line ? x.forCalls(1).line(k, i) : x.forCalls(1).term(k, i);
            if (sign != TermPile.NONE) {
                text.append((char) sign);
            }
        }
        return text.toString();
    }

    private static void compareRuns(Pile x, Plain plain) {
        Worked acts = plain.runActs();
        Worked read = new Reader(plain).runTexts();
        Check.due("texts read back: result", read.result(), acts.result());
        Check.due("texts read back: left", read.pile, acts.pile);
        Check.due("texts read back: variables", Arrays.toString(read.variables),
                Arrays.toString(acts.variables));
        TermPile pile = x.forCalls(CALLS_OF_BOTH_RUNS);
        compareSide(pile, 0, acts);
        compareSide(pile, 1, read);
    }

    private static void compareSide(TermPile x, int side, Worked due) {
        Check.due("run(" + side + ")", x.run(side), due.result());
        Check.due("calls of side " + side, x.count(4 + side), due.calls);
        for (int v = 0; v <= 9; v++) {
            Check.due("value(" + side + ", " + v + ")", x.value(side, v), due.variables[v]);
        }
        for (int k = -1; k <= due.pile.size(); k++) {
            int place = k;
            boolean there = k >= 0 && k < due.pile.size();
            Check.due("left(" + side + ", " + k + ")", answer(() -> x.left(side, place)),
                    there ? due.pile.get(k) : Check.INDEX);
        }
    }

    private static String answer(Check.Call call) {
        try {
            return String.valueOf(call.answer());
        } catch (RuntimeException e) {
            return e.getClass().getSimpleName();
        }
    }

    private static int below(int bound) {
        seed = seed * 6364136223846793005L + 1442695040888963407L;
        return (int) ((seed >>> 33) % bound);
    }

    /** A TermPile that is made anew, and told and given the same, ahead of its last calls. */
    private static final class Pile {
        private final List<Consumer<TermPile>> changes = new ArrayList<>();
        private TermPile x = new TermPile();
        private int calls = 0;

        String act(int kind, int n) {
            String answer = answer(() -> forCalls(1).act(kind, n));
            changes.add(again -> answer(() -> again.act(kind, n)));
            return answer;
        }

        boolean give(int variable, long v) {
            boolean answer = forCalls(1).give(variable, v);
            changes.add(again -> again.give(variable, v));
            return answer;
        }

        TermPile forCalls(int more) {
            if (calls + more > MOST_CALLS) {
                x = new TermPile();
                changes.forEach(change -> change.accept(x));
                calls = changes.size();
            }
            calls += more;
            return x;
        }
    }

    /** What a run leaves. */
    private static final class Worked {
        final long[] variables;
        final long[] temporaries = new long[200];
        final List<Long> pile = new ArrayList<>();
        int calls = 0;
        boolean failed = false;

        Worked(long[] given) {
            variables = given.clone();
        }

        int result() {
            return failed ? calls + 1 : 0;
        }

        long take() {
            return pile.remove(pile.size() - 1);
        }

        long called(long[] p) {
            calls++;
            return 31L * calls + p[0] + 3 * p[1] + 9 * p[2];
        }

        long op(char sign, long x, long y) {
            switch (sign) {
                case '+':
                    return x + y;
                case '-':
                    return x - y;
                case '*':
                    return x * y;
                case '&':
                    return x & y;
                case '|':
                    return x | y;
                case '^':
                    return x ^ y;
                default:
                    if (y == 0) {
                        throw new ArithmeticException("failure");
                    }
                    return sign == '/' ? x / y : x % y;
            }
        }

        void fail() {
            failed = true;
            pile.clear();
        }
    }

    /** A term as its text and what brackets need: 9 for what never stands in any. */
    private static final class Term {
        final String text;
        final int rank;
        final boolean number;
        final boolean plain;

        Term(String text, int rank, boolean number, boolean plain) {
            this.text = text;
            this.rank = rank;
            this.number = number;
            this.plain = plain;
        }

        String inBracketsIf(boolean brackets) {
            return brackets ? "(" + text + ")" : text;
        }
    }

    /** The document once more, with texts and lists alone. */
    private static final class Plain {
        final List<int[]> acts = new ArrayList<>();
        final List<String> lines = new ArrayList<>();
        final List<Term> pile = new ArrayList<>();
        final long[] given = new long[10];
        int temporaries = 0;

        String tell(int kind, int n) {
            if (!right(kind, n)) {
                return "IllegalArgumentException";
            }
            int[] takes = {0, 0, 1, 0, 2, 1, 1, 1, 2, 2, n};
            int[] puts = {1, 1, 0, 0, 1, 1, 0, 2, 2, 3, 1};
            int behind = pile.size() - takes[kind] + puts[kind];
            if (acts.size() == 100 || pile.size() < takes[kind] || behind > 20) {
                return "IllegalStateException";
            }
            acts.add(new int[] {kind, n});
            if (kind == 3 || kind >= 7 && kind <= 9) {
                putOut(pile.size());
            } else if (kind == 2 || kind == 6 || kind == 10) {
                putOut(pile.size() - takes[kind]);
            }
            turn(kind, n);
            return String.valueOf(acts.size());
        }

        boolean right(int kind, int n) {
            switch (kind) {
                case 0:
                    return n >= -128 && n <= 127;
                case 1:
                case 2:
                    return n >= 0 && n <= 9;
                case 3:
                    return n >= 0 && n <= 2559;
                case 4:
                    return n >= 0 && n <= 7;
                case 10:
                    return n >= 0 && n <= 3;
                default:
                    return kind >= 5 && kind <= 9 && n == 0;
            }
        }

        void putOut(int places) {
            for (int k = 0; k < places; k++) {
                if (!pile.get(k).plain) {
                    lines.add("t" + temporaries + " = " + pile.get(k).text + ";");
                    pile.set(k, new Term("t" + temporaries, 9, false, true));
                    temporaries++;
                }
            }
        }

        Term take() {
            return pile.remove(pile.size() - 1);
        }

        void put(String text, int rank) {
            pile.add(new Term(text, rank, false, false));
        }

        void turn(int kind, int n) {
            Term y = kind >= 2 && kind != 3 && kind != 10 ? take() : null;
            Term x = kind == 4 || kind == 8 || kind == 9 ? take() : null;
            switch (kind) {
                case 0:
                    pile.add(new Term("" + n, 9, true, true));
                    break;
                case 1:
                    put("" + (char) ('a' + n), 9);
                    break;
                case 2:
                    lines.add((char) ('a' + n) + " = " + y.text + ";");
                    break;
                case 3:
                    lines.add((char) ('a' + n / 256) + " += " + (n % 256 - 128) + ";");
                    break;
                case 4:
                    put(x.inBracketsIf(x.rank < RANKS[n]) + " " + OPS.charAt(n) + " "
                            + y.inBracketsIf(y.rank <= RANKS[n]), RANKS[n]);
                    break;
                case 5:
                    put("-" + y.inBracketsIf(y.rank <= 5 || y.number), 5);
                    break;
                case 6:
                    lines.add("drop " + y.text + ";");
                    break;
                case 10:
                    putCall(n);
                    break;
                default:
                    pile.addAll(kind == 7 ? List.of(y, y) : kind == 8 ? List.of(y, x) : List.of(y, x, y));
                    break;
            }
        }

        void putCall(int n) {
            List<String> parameters = new ArrayList<>();
            for (int p = 0; p < n; p++) {
                parameters.add(0, take().text);
            }
            put("f(" + String.join(", ", parameters) + ")", 9);
        }

        Worked runActs() {
            Worked worked = new Worked(given);
            try {
                for (int[] act : acts) {
                    step(worked, act[0], act[1]);
                }
            } catch (ArithmeticException e) {
                worked.fail();
            }
            return worked;
        }

        void step(Worked w, int kind, int n) {
            long y = kind >= 2 && kind != 3 && kind != 10 ? w.take() : 0;
            long x = kind == 4 || kind == 8 || kind == 9 ? w.take() : 0;
            switch (kind) {
                case 0:
                    w.pile.add((long) n);
                    break;
                case 1:
                    w.pile.add(w.variables[n]);
                    break;
                case 2:
                    w.variables[n] = y;
                    break;
                case 3:
                    w.variables[n / 256] += n % 256 - 128;
                    break;
                case 4:
                    w.pile.add(w.op(OPS.charAt(n), x, y));
                    break;
                case 5:
                    w.pile.add(-y);
                    break;
                case 6:
                    break;
                case 10:
                    long[] p = new long[3];
                    for (int at = n - 1; at >= 0; at--) {
                        p[at] = w.take();
                    }
                    w.pile.add(w.called(p));
                    break;
                default:
                    w.pile.addAll(kind == 7 ? List.of(y, y) : kind == 8 ? List.of(y, x) : List.of(y, x, y));
                    break;
            }
        }
    }

    /** Works texts of lines and terms, by ranks and brackets alone. */
    private static final class Reader {
        private final Plain plain;
        private final Worked worked;
        private String text = "";
        private int at = 0;

        Reader(Plain plain) {
            this.plain = plain;
            worked = new Worked(plain.given);
        }

        Worked runTexts() {
            try {
                for (String line : plain.lines) {
                    runLine(line);
                }
                for (Term term : plain.pile) {
                    worked.pile.add(valueOf(term.text));
                }
            } catch (ArithmeticException e) {
                worked.fail();
            }
            return worked;
        }

        private void runLine(String line) {
            String bare = line.substring(0, line.length() - 1);
            if (bare.startsWith("drop ")) {
                valueOf(bare.substring(5));
                return;
            }
            String name = bare.substring(0, bare.indexOf(' '));
            String rest = bare.substring(bare.indexOf("= ") + 2);
            long value = valueOf(rest);
            if (name.charAt(0) == 't') {
                worked.temporaries[Integer.parseInt(name.substring(1))] = value;
            } else if (bare.startsWith(" += ", 1)) {
                worked.variables[name.charAt(0) - 'a'] += value;
            } else {
                worked.variables[name.charAt(0) - 'a'] = value;
            }
        }

        private long valueOf(String term) {
            text = term;
            at = 0;
            long value = ops(0);
            if (at != text.length()) {
                throw new IllegalStateException("can't be read: " + term);
            }
            return value;
        }

        private long ops(int rank) {
            if (rank == 5) {
                return single();
            }
            long value = ops(rank + 1);
            while (at + 1 < text.length() && text.charAt(at) == ' '
                    && RANKS[OPS.indexOf(text.charAt(at + 1))] == rank) {
                char sign = text.charAt(at + 1);
                at += 3;
                value = worked.op(sign, value, ops(rank + 1));
            }
            return value;
        }

        private long single() {
            char sign = text.charAt(at++);
            if (sign == '-') {
                return -single();
            }
            if (sign == '(') {
                long value = ops(0);
                at++;
                return value;
            }
            if (sign == 'f' && at < text.length() && text.charAt(at) == '(') {
                return call();
            }
            if (sign == 't') {
                return worked.temporaries[(int) digits(at)];
            }
            return sign >= 'a' ? worked.variables[sign - 'a'] : digits(at - 1);
        }

        private long call() {
            long[] p = new long[3];
            at++;
            for (int n = 0; text.charAt(at) != ')'; n++) {
                at += text.charAt(at) == ',' ? 2 : 0;
                p[n] = ops(0);
            }
            at++;
            return worked.called(p);
        }

        private long digits(int from) {
            at = from;
            while (at < text.length() && Character.isDigit(text.charAt(at))) {
                at++;
            }
            return Long.parseLong(text.substring(from, at));
        }
    }
}
