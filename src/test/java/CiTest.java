import java.io.File;
import java.io.IOException;
import java.nio.file.Files;
import java.nio.file.Path;
import java.nio.file.StandardCopyOption;
import java.util.Comparator;
import java.util.List;
import java.util.TreeSet;
import java.util.concurrent.TimeUnit;
import java.util.regex.Matcher;
import java.util.regex.Pattern;
import java.util.stream.Stream;

/** What README.md says of running the tests, tried with its own commands on small projects. */
public final class CiTest {
    private static final String SECTION = "Tests";
    private static final Path TRIALS = Path.of("build", "trials");
    private static final Path SCRIPT = Path.of(".ci", "run");
    private static final int MOST_MINUTES = 5;

    private static final String SHARED = "shared/tests";
    private static final String PROJECT = "main/src/test/java";
    private static final String SUPPORT = "main/src/test/support";
    private static final String MAIN = "main/src/main/java";

    public static void main(String[] args) throws IOException, InterruptedException {
        says("In the project's folder, with `shared` beside it: .ci/run");
        Check.due("the script can be run", Files.isExecutable(SCRIPT), true);
        says("It compiles the class with each test under `../shared/tests`, and with"
                + " `src/test/support` and each test under `src/test/java`, into `build`, and runs"
                + " each.");
        eachTestIsRun();
        says("It needs a shell, javac and java, nothing else.");
        nothingElseIsFound();
        says("It ends with 0 if all pass, and with 1 if one fails or can't be compiled, or if"
                + " either folder has none.");
        aTestThatFails();
        whatCannotBeCompiled();
        noTest();
        oneTestAlone();
        everyFileIsNamed();
        Check.end("all that README.md says of running the tests holds");
    }

    /** What the answers that follow rest on; it must stand in README.md. */
    private static void says(String sentence) {
        Check.about("README.md, \"" + sentence + "\": ");
        String words = Document.words(Document.README, SECTION);
        Check.due("that this stands there", words.contains(sentence), true);
    }

    // ---- what is tried

    private static void eachTestIsRun() throws IOException, InterruptedException {
        Path trial = newTrial("well");
        write(trial, PROJECT, "Second", test("Second", "Helper.help();"));
        write(trial, SUPPORT, "Helper", "final class Helper { static void help() {"
                + " System.out.println(\"Helper has run\"); } }");
        Answer answer = runAsReadmeSays(trial);
        Check.due("exit code", answer.code, 0);
        for (String name : new String[] {"Shared", "Project", "Second", "Helper"}) {
            Check.due(name + " is run", answer.printed.contains(name + " has run"), true);
        }
        Check.due("classes in build", holdsClass(trial.resolve("main/build")), true);
        Check.due("classes elsewhere", holdsClass(trial.resolve("main/src"))
                || holdsClass(trial.resolve("shared")), false);
    }

    private static void nothingElseIsFound() throws IOException, InterruptedException {
        Path trial = newTrial("alone");
        for (String tool : new String[] {"ls", "cat", "sed", "rm", "mkdir", "basename"}) {
            Check.due(tool + " is found", run(trial, "command -v " + tool).code == 0, false);
        }
        Answer answer = runAsReadmeSays(trial);
        Check.due("exit code without them", answer.code, 0);
        Check.due("a look for another tool", answer.printed.contains("not found"), false);
    }

    private static void aTestThatFails() throws IOException, InterruptedException {
        for (String folder : new String[] {SHARED, PROJECT}) {
            // Ahead of the test that passes, so that one that fails must not be forgotten.
            Path trial = newTrial("fails");
            write(trial, folder, "Failing", test("Failing", "System.exit(1);"));
            Answer answer = runAsReadmeSays(trial);
            Check.due("exit code, one of " + folder + " fails", answer.code, 1);
            Check.due("the others are run", answer.printed.contains("Shared has run")
                    && answer.printed.contains("Project has run"), true);
            Path thrown = newTrial("throws");
            write(thrown, folder, "Failing", test("Failing", "throw new RuntimeException();"));
            Check.due("exit code, one of " + folder + " throws", runAsReadmeSays(thrown).code, 1);
        }
    }

    private static void whatCannotBeCompiled() throws IOException, InterruptedException {
        for (String folder : new String[] {SHARED, PROJECT, MAIN}) {
            Path trial = newTrial("broken");
            String name = folder.equals(MAIN) ? "TermPile" : "Broken";
            write(trial, folder, name, "public final class " + name + " { broken }");
            Check.due("exit code, " + name + " of " + folder, runAsReadmeSays(trial).code, 1);
        }
    }

    private static void noTest() throws IOException, InterruptedException {
        for (String folder : new String[] {SHARED, PROJECT}) {
            Path trial = newTrial("none");
            empty(trial.resolve(folder));
            Files.createDirectories(trial.resolve(folder));
            Check.due("exit code, none in " + folder, runAsReadmeSays(trial).code, 1);
            empty(trial.resolve(folder));
            Check.due("exit code, no " + folder, runAsReadmeSays(trial).code, 1);
        }
    }

    private static void oneTestAlone() throws IOException, InterruptedException {
        List<String> commands = commands();
        Check.due("commands", commands.size(), 3);
        says("One test alone: " + String.join(" ", commands.subList(1, commands.size())));
        empty(Path.of("build", "one"));
        for (String command : commands.subList(1, commands.size())) {
            Check.due("exit code of " + command, run(Path.of(""), command).code, 0);
        }
    }

    private static void everyFileIsNamed() throws IOException {
        Check.about("README.md, section \"" + SECTION + "\": ");
        TreeSet<String> files = new TreeSet<>();
        for (String folder : new String[] {"src/test/java", "src/test/support"}) {
            try (Stream<Path> all = Files.list(Path.of(folder))) {
                all.forEach(file -> files.add(file.getFileName().toString().replace(".java", "")));
            }
        }
        TreeSet<String> named = new TreeSet<>();
        Matcher name = Pattern.compile("`([A-Z]\\w+)`").matcher(Document.section(Document.README, SECTION));
        while (name.find()) {
            named.add(name.group(1));
        }
        Check.due("the names of tests and of what they share", named, files);
    }

    // ---- small projects

    /** A folder with this project's script and one test in each place that passes. */
    private static Path newTrial(String name) throws IOException {
        Path trial = TRIALS.resolve(name);
        empty(trial);
        write(trial, MAIN, "TermPile", "public final class TermPile { }");
        write(trial, SUPPORT, "Nothing", "final class Nothing { }");
        write(trial, SHARED, "Shared", test("Shared", ""));
        write(trial, PROJECT, "Project", test("Project", ""));
        Path script = trial.resolve("main").resolve(SCRIPT);
        Files.createDirectories(script.getParent());
        Files.copy(SCRIPT, script, StandardCopyOption.COPY_ATTRIBUTES);
        return trial;
    }

    private static void write(Path trial, String folder, String name, String text)
            throws IOException {
        Path file = trial.resolve(folder).resolve(name + ".java");
        Files.createDirectories(file.getParent());
        Files.writeString(file, text);
    }

    /** A test that uses the class, tells that it has run, and does what else is told. */
    private static String test(String name, String more) {
        return "public final class " + name + " { public static void main(String[] args) {"
                + " new TermPile(); System.out.println(\"" + name + " has run\"); " + more + " } }";
    }

    private static void empty(Path folder) throws IOException {
        if (!Files.exists(folder)) {
            return;
        }
        try (Stream<Path> all = Files.walk(folder)) {
            for (Path each : all.sorted(Comparator.reverseOrder()).toList()) {
                Files.delete(each);
            }
        }
    }

    private static boolean holdsClass(Path folder) throws IOException {
        try (Stream<Path> all = Files.walk(folder)) {
            return all.anyMatch(file -> file.toString().endsWith(".class"));
        }
    }

    // ---- commands

    private static final class Answer {
        final int code;
        final String printed;

        Answer(int code, String printed) {
            this.code = code;
            this.printed = printed;
        }
    }

    /** The commands that stand there, each on a line of its own, four blanks in. */
    private static List<String> commands() {
        return Document.lines(Document.README, SECTION).stream()
                .filter(line -> line.startsWith("    ")).map(String::trim).toList();
    }

    private static Answer runAsReadmeSays(Path trial) throws IOException, InterruptedException {
        List<String> commands = commands();
        return run(trial.resolve("main"), commands.isEmpty() ? "no command" : commands.get(0));
    }

    /** With nothing to be found but what lies beside java, so that javac and java must do. */
    private static Answer run(Path folder, String command) throws IOException, InterruptedException {
        Files.createDirectories(TRIALS);
        File printed = TRIALS.resolve("printed").toFile();
        ProcessBuilder builder = new ProcessBuilder("/bin/sh", "-c", command);
        builder.directory(folder.toAbsolutePath().toFile());
        builder.environment().put("PATH", Path.of(System.getProperty("java.home"), "bin").toString());
        builder.redirectErrorStream(true).redirectOutput(printed);
        Process process = builder.start();
        if (!process.waitFor(MOST_MINUTES, TimeUnit.MINUTES)) {
            process.destroyForcibly();
            return new Answer(-1, "no end within " + MOST_MINUTES + " minutes");
        }
        return new Answer(process.exitValue(), Files.readString(printed.toPath()));
    }
}
