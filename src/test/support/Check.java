import java.util.ArrayList;
import java.util.List;

/**
 * What the tests share: piles that are told a row of acts, all that can be seen of a pile, and the
 * count of answers that are not as due.
 */
final class Check {
    static final String ARGUMENT = "IllegalArgumentException";
    static final String STATE = "IllegalStateException";
    static final String INDEX = "IndexOutOfBoundsException";
    static final String NOTHING = "nothing";

    static final int[] WRONG_SIDES = {-1, 2, 3, Integer.MIN_VALUE, Integer.MAX_VALUE};
    static final int[] WRONG_VARIABLES = {-1, 10, 11, Integer.MIN_VALUE, Integer.MAX_VALUE};

    /* More than any text has: a text without an end ends there. */
    private static final int MOST_SIGNS = 1000;

    private static int wrong = 0;
    private static String about = "";

    interface Call {
        Object answer();
    }

    private Check() {
    }

    /** What the answers that follow are about; it stands ahead of each that is wrong. */
    static void about(String what) {
        about = what;
    }

    static void due(String what, Object got, Object want) {
        if (!String.valueOf(got).equals(String.valueOf(want))) {
            wrong++;
            System.out.println(about + what + " answered " + got + ", due is " + want);
        }
    }

    static void due(String what, long got, long want) {
        due(what, Long.valueOf(got), Long.valueOf(want));
    }

    static int wrong() {
        return wrong;
    }

    static void end(String well) {
        System.out.println(wrong == 0 ? well : wrong + " answers are not as due");
        if (wrong != 0) {
            System.exit(1);
        }
    }

    // ---- piles

    /** A pile that is told the acts: kind and number, kind and number, .. */
    static TermPile told(String acts) {
        TermPile x = new TermPile();
        tell(x, acts);
        return x;
    }

    static void tell(TermPile x, String acts) {
        String[] words = acts.isEmpty() ? new String[0] : acts.split(" ");
        for (int at = 0; at < words.length; at += 2) {
            x.act(Integer.parseInt(words[at]), Integer.parseInt(words[at + 1]));
        }
    }

    /** A pile of the numbers 0, 1, 2, .. */
    static TermPile numbers(int many) {
        TermPile x = new TermPile();
        for (int n = 0; n < many; n++) {
            x.act(0, n);
        }
        return x;
    }

    /** A pile of variables alone, each of which would be put out as a line. */
    static TermPile variables(int many) {
        TermPile x = new TermPile();
        for (int n = 0; n < many; n++) {
            x.act(1, n % 10);
        }
        return x;
    }

    // ---- what can be seen of a pile

    static String line(TermPile x, int k) {
        StringBuilder text = new StringBuilder();
        int sign = x.line(k, 0);
        while (sign != -1 && text.length() < MOST_SIGNS) {
            text.append((char) sign);
            sign = x.line(k, text.length());
        }
        return text.toString();
    }

    static String term(TermPile x, int k) {
        StringBuilder text = new StringBuilder();
        int sign = x.term(k, 0);
        while (sign != -1 && text.length() < MOST_SIGNS) {
            text.append((char) sign);
            sign = x.term(k, text.length());
        }
        return text.toString();
    }

    static String lines(TermPile x) {
        List<String> all = new ArrayList<>();
        int many = x.count(1);
        for (int k = 0; k < many; k++) {
            all.add(line(x, k));
        }
        return String.join(" ", all);
    }

    static String terms(TermPile x) {
        List<String> all = new ArrayList<>();
        int many = x.count(3);
        for (int k = 0; k < many; k++) {
            all.add(term(x, k));
        }
        return String.join(" | ", all);
    }

    /** Counts, texts, values and what is left, of both sides: all that a refused call could change. */
    static String state(TermPile x) {
        StringBuilder all = new StringBuilder();
        for (int what = 0; what <= 5; what++) {
            all.append(x.count(what)).append(' ');
        }
        all.append("lines ").append(lines(x)).append(" terms ").append(terms(x));
        for (int side = 0; side <= 1; side++) {
            all.append(" side ").append(side).append(" values");
            for (int v = 0; v <= 9; v++) {
                all.append(' ').append(x.value(side, v));
            }
            all.append(" left ").append(leftOf(x, side));
        }
        return all.toString();
    }

    static List<Long> leftOf(TermPile x, int side) {
        List<Long> all = new ArrayList<>();
        // One place more than the pile can have, so that a pile that is too high is seen.
        for (int k = 0; k <= 20; k++) {
            try {
                all.add(x.left(side, k));
            } catch (IndexOutOfBoundsException e) {
                return all;
            }
        }
        return all;
    }

    // ---- answers that are due

    /** The exception's own name: a class below the one that is due is not as due. */
    static String thrown(Call call) {
        try {
            call.answer();
            return NOTHING;
        } catch (RuntimeException e) {
            return e.getClass().getSimpleName();
        }
    }

    static void dueThrown(String what, Call call, String exception) {
        due(what + " throws", thrown(call), exception);
    }

    static void dueRefused(TermPile x, int kind, int n, String exception) {
        dueThrown("act " + kind + " " + n, () -> x.act(kind, n), exception);
    }

    static void dueUnchanged(String what, TermPile x, Call call, String exception) {
        String before = state(x);
        dueThrown(what, call, exception);
        due("the state behind " + what, state(x), before);
    }

    static void dueTexts(String what, TermPile x, String lines, String terms) {
        due(what + ": lines", lines(x), lines);
        due(what + ": terms", terms(x), terms);
    }

    static void dueTerm(String acts, String text) {
        due("the term of " + acts, term(told(acts), 0), text);
    }

    /** Both sides run well, and leave just these values. */
    static void dueLeft(String what, TermPile x, Long... values) {
        dueSame(what, x);
        due(what + ": left", leftOf(x, 0), List.of(values));
    }

    static void dueSame(String what, TermPile x) {
        due(what + ": run of the acts", x.run(0), 0);
        due(what + ": run of the lines", x.run(1), 0);
        for (int v = 0; v <= 9; v++) {
            due(what + ": variable " + v + " of both", x.value(1, v), x.value(0, v));
        }
        due(what + ": left of both", leftOf(x, 1), leftOf(x, 0));
    }
}
