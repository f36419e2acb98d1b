import java.net.URI;
import java.util.ArrayList;
import java.util.List;
import java.util.regex.Matcher;
import java.util.regex.Pattern;
import javax.tools.JavaCompiler;
import javax.tools.JavaFileObject;
import javax.tools.SimpleJavaFileObject;
import javax.tools.ToolProvider;

/**
 * What README.md says of the use of the class: its example is read from there and compiled, each
 * call with a comparison of its answer and what stands behind it.
 */
public final class ReadmeTest {
    private static final String EXAMPLE = "ReadmeExample";

    /* A call, what it answers or throws and, behind a colon, why. */
    private static final Pattern ANSWERED =
            Pattern.compile("(\\S.*);\\s+// (throws )?(.+?)(: .*)?");
    private static final Pattern QUOTED_LINE = Pattern.compile("\"([^\"]*;)\"");

    public static void main(String[] args) {
        Check.about("README.md, section \"Use\": ");
        List<String> example = example();
        everyCallIsShown();
        everyKindAndExceptionIsShown(String.join("\n", example));
        if (compiles(program(example))) {
            runs();
        }
        Check.end("all that README.md says of the use holds");
    }

    /** The lines of all parts, as each part goes on where the one ahead of it ended. */
    private static List<String> example() {
        List<String> example = new ArrayList<>();
        boolean inside = false;
        for (String line : Document.lines(Document.README, "Use")) {
            if (line.startsWith("```")) {
                inside = line.equals("```java");
            } else if (inside) {
                example.add(line);
            }
        }
        return example;
    }

    private static void everyCallIsShown() {
        String section = Document.section(Document.README, "Use");
        int methods = 0;
        for (String line : Document.lines(Document.PROMISES, "The public face")) {
            Matcher method = Pattern.compile("\\s+public \\w+ (\\w+)(\\(.*\\)).*").matcher(line);
            if (method.matches()) {
                methods++;
                String call = method.group(1) + method.group(2).replaceAll("\\w+ (\\w+)", "$1");
                Check.due("the table's row of " + call, section.contains("\n| `" + call + "` | "), true);
                Check.due("the example's use of " + call,
                        section.contains("\nx." + method.group(1) + "("), true);
            }
        }
        Check.due("methods of the face", methods, 8);
    }

    private static void everyKindAndExceptionIsShown(String example) {
        for (int kind = 0; kind <= 10; kind++) {
            Check.due("the example's use of kind " + kind,
                    example.contains("\nx.act(" + kind + ", "), true);
        }
        for (String name : new String[] {Check.ARGUMENT, Check.STATE, Check.INDEX}) {
            Check.due("the example's use of " + name, example.contains("throws " + name), true);
        }
        Check.due("the example's use of NONE", example.contains("// TermPile.NONE"), true);
    }

    private static String program(List<String> example) {
        StringBuilder program = new StringBuilder();
        program.append("final class ").append(EXAMPLE).append(" {\nstatic void run() {\n");
        for (String line : example) {
            program.append(compared(line)).append('\n');
        }
        // At last, as the lines stay and each look at them costs some of the object's calls.
        program.append("String lines = \" \" + Check.lines(x) + \" \";\n");
        Matcher quoted = QUOTED_LINE.matcher(String.join("\n", example));
        while (quoted.find()) {
            String has = "lines.contains(" + written(" " + quoted.group(1) + " ") + ")";
            program.append("Check.due(").append(written("a line " + quoted.group(1)))
                    .append(", ").append(has).append(", true);\n");
        }
        return program.append("}\n}\n").toString();
    }

    private static String compared(String line) {
        Matcher answered = ANSWERED.matcher(line);
        if (!answered.matches()) {
            Check.due("the call " + line + " is told without its answer", isCall(line), false);
            return line;
        }
        String call = answered.group(1);
        String answer = answered.group(3);
        if (answered.group(2) != null) {
            return "Check.dueThrown(" + written(call) + ", () -> " + call + ", \"" + answer + "\");";
        }
        return "Check.due(" + written(call) + ", " + call + ", " + answer + ");";
    }

    /** Alone on its line: what a loop does again and again has no one answer, and is set in. */
    private static boolean isCall(String line) {
        return line.matches("\\w+\\.\\w+\\(.*");
    }

    private static String written(String text) {
        return "\"" + text.replace("\\", "\\\\").replace("\"", "\\\"") + "\"";
    }

    /** To where this test's own classes lie: there the example finds them, and is found. */
    private static boolean compiles(String program) {
        JavaCompiler compiler = ToolProvider.getSystemJavaCompiler();
        if (compiler == null) {
            Check.due("the Java compiler", "nothing", "a compiler");
            return false;
        }
        String classes = System.getProperty("java.class.path");
        JavaFileObject source = new Source(program);
        boolean well = compiler.getTask(null, null, null,
                List.of("--release", "17", "-cp", classes, "-d", classes), null,
                List.of(source)).call();
        Check.due("the example compiles", well, true);
        return well;
    }

    private static void runs() {
        try {
            Class.forName(EXAMPLE).getDeclaredMethod("run").invoke(null);
        } catch (ReflectiveOperationException e) {
            String what = e.getCause() == null ? e.toString() : e.getCause().toString();
            Check.due("the example", what, "its end");
        }
    }

    private static final class Source extends SimpleJavaFileObject {
        private final String text;

        Source(String text) {
            super(URI.create("string:///" + EXAMPLE + ".java"), Kind.SOURCE);
            this.text = text;
        }

        @Override
        public CharSequence getCharContent(boolean ignoreEncodingErrors) {
            return text;
        }
    }
}
