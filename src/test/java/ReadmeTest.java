import java.io.IOException;
import java.lang.reflect.Method;
import java.lang.reflect.Modifier;
import java.nio.file.Files;
import java.nio.file.Path;
import java.util.ArrayList;
import java.util.Comparator;
import java.util.List;
import java.util.concurrent.TimeUnit;
import java.util.regex.Matcher;
import java.util.regex.Pattern;
import java.util.stream.Stream;

/**
 * What README.md says of use and of running the tests is so: its example answers what it says, its
 * commands run the tests, and it names every test. To be run from the project's own directory.
 */
public final class ReadmeTest {
    private static final Path README = Path.of("README.md");
    private static final Path PROGRAM = Path.of("src/main/java/FaultTreeDesk.java");
    private static final Path RUN = Path.of(".ci/run");
    private static final Path TESTS = Path.of("src/test/java");

    /** A line of the example: a call, the name its answer gets, and what it says of the answer. */
    private static final Pattern LINE = Pattern.compile(
        "(?:int (\\w+) = )?(desk\\.(\\w+)\\(.*\\));(?:\\s*// (answers|throws) (-?\\w+).*)?");

    private static int wrong = 0;

    private static void tell(String text) {
        wrong++;
        System.out.println(text);
    }

    /** The texts between ``` and ``` that are marked as of this language. */
    private static List<String> blocks(List<String> lines, String language) {
        List<String> found = new ArrayList<>();
        StringBuilder open = null;
        for (String line : lines) {
            if (open != null && line.equals("```")) {
                found.add(open.toString());
                open = null;
            } else if (open != null) {
                open.append(line).append('\n');
            } else if (line.equals("```" + language)) {
                open = new StringBuilder();
            }
        }
        return found;
    }

    private record Outcome(int code, String text) { }

    private static Outcome shell(Path where, Path temporary, String command) throws IOException, InterruptedException {
        Path text = Files.createTempFile(temporary, "out", ".txt");
        ProcessBuilder builder = new ProcessBuilder("sh", "-e", "-c", command);
        builder.directory(where.toFile()).redirectErrorStream(true).redirectOutput(text.toFile());
        builder.environment().put("TMPDIR", temporary.toString());
        Process process = builder.start();
        if (!process.waitFor(5, TimeUnit.MINUTES)) {
            process.destroyForcibly();
            return new Outcome(-1, "does not end");
        }
        return new Outcome(process.exitValue(), Files.readString(text));
    }

    // The example.

    private static String quoted(String text) {
        return "\"" + text.replace("\\", "\\\\").replace("\"", "\\\"") + "\"";
    }

    /** The line as a call that tells if its answer is not the one that the line says. */
    private static String checked(Matcher m) {
        String call = m.group(2);
        String name = m.group(1);
        String said = m.group(5);
        if (m.group(4) == null) return call + ";";
        String due = "due(" + quoted(call) + ", ";
        if (m.group(4).equals("throws")) {
            return "try { " + call + "; " + due + "\"no exception\", " + quoted(said) + "); } catch (RuntimeException e) { "
                + due + "e.getClass().getSimpleName(), " + quoted(said) + "); }";
        }
        String value = name == null ? call : name;
        return (name == null ? "" : "int " + name + " = " + call + "; ") + due + "String.valueOf(" + value + "), "
            + quoted(said) + ");";
    }

    private static String program(String example) {
        StringBuilder body = new StringBuilder();
        List<String> used = new ArrayList<>();
        for (String line : example.split("\n")) {
            Matcher m = LINE.matcher(line);
            if (!m.matches()) {
                body.append(line).append('\n');
                continue;
            }
            used.add(m.group(3));
            if (m.group(4) == null && !m.group(3).equals("top")) tell("the example does not say what is answered: " + line);
            body.append(checked(m)).append('\n');
        }
        for (Method m : FaultTreeDesk.class.getDeclaredMethods()) {
            boolean face = Modifier.isPublic(m.getModifiers());
            if (face && !used.contains(m.getName())) tell("the example has no call of " + m.getName());
        }
        return "public final class Example {\n"
            + "static int wrong = 0;\n"
            + "static void due(String call, String got, String want) {\n"
            + "if (!got.equals(want)) { wrong++; System.out.println(call + \" answered \" + got + \", README says \" + want); }\n"
            + "}\n"
            + "public static void main(String[] args) {\n" + body + "if (wrong != 0) System.exit(1);\n}\n}\n";
    }

    private static void checkExample(List<String> lines, Path temporary) throws IOException, InterruptedException {
        List<String> examples = blocks(lines, "java");
        if (examples.size() != 1) {
            tell("README has " + examples.size() + " examples, due is one");
            return;
        }
        Path where = Files.createDirectory(temporary.resolve("example"));
        Files.writeString(where.resolve("Example.java"), program(examples.get(0)));
        Files.copy(PROGRAM, where.resolve("FaultTreeDesk.java"));
        Outcome out = shell(where, temporary, "javac Example.java FaultTreeDesk.java && java -cp . Example");
        if (out.code != 0) tell("the example does not answer what it says:\n" + out.text);
    }

    // The commands.

    private static String testText(String name, boolean passes) {
        return "public final class " + name + " { public static void main(String[] args) { new FaultTreeDesk();"
            + " System.out.println(\"" + name + " has run\"); System.exit(" + (passes ? 0 : 1) + "); } }\n";
    }

    /** A project of the same form with one test of its own and one beside it. */
    private static Outcome runIn(Path base, Path temporary, String command, String program, boolean own, boolean shared)
            throws IOException, InterruptedException {
        Path main = base.resolve("main");
        Path[] files = {main.resolve(PROGRAM), main.resolve(TESTS).resolve("OwnTest.java"),
            base.resolve("shared/tests/BesideTest.java"), main.resolve(RUN)};
        for (Path file : files) Files.createDirectories(file.getParent());
        Files.writeString(files[0], program);
        Files.writeString(files[1], testText("OwnTest", own));
        Files.writeString(files[2], testText("BesideTest", shared));
        Files.copy(RUN, files[3]);
        files[3].toFile().setExecutable(true);
        return shell(main, temporary, command);
    }

    private static void checkRun(String command, Path temporary) throws IOException, InterruptedException {
        if (!Files.isExecutable(RUN)) tell(RUN + " can't be run");
        String program = Files.readString(PROGRAM);
        Outcome good = runIn(temporary.resolve("good"), temporary, command, program, true, true);
        if (good.code != 0) tell("all tests pass, but the command fails:\n" + good.text);
        for (String name : new String[] {"OwnTest", "BesideTest"}) {
            if (!good.text.contains(name + " has run")) tell("the command does not run " + name + ":\n" + good.text);
        }
        if (runIn(temporary.resolve("own"), temporary, command, program, false, true).code == 0) {
            tell("a test of the project fails, but the command does not");
        }
        if (runIn(temporary.resolve("beside"), temporary, command, program, true, false).code == 0) {
            tell("a test under ../shared/tests fails, but the command does not");
        }
        if (runIn(temporary.resolve("broken"), temporary, command, "no program", true, true).code == 0) {
            tell("the program does not compile, but the command does not fail");
        }
    }

    private static void checkCommands(List<String> lines, Path temporary) throws IOException, InterruptedException {
        List<String> commands = blocks(lines, "sh");
        if (commands.size() != 2) {
            tell("README has " + commands.size() + " commands, due are that for all tests and that for one");
            return;
        }
        checkRun(commands.get(0), temporary);
        Outcome one = shell(Path.of("."), temporary, commands.get(1));
        if (one.code != 0 || !one.text.contains("agree with the model")) tell("the command for one test fails:\n" + one.text);
    }

    private static void checkNames(List<String> lines) throws IOException {
        String text = String.join("\n", lines);
        try (Stream<Path> tests = Files.list(TESTS)) {
            for (Path test : tests.sorted().toList()) {
                String name = test.getFileName().toString().replace(".java", "");
                if (!text.contains("\n- `" + name + "`: ")) tell("README does not say what " + name + " is");
            }
        }
        Matcher named = Pattern.compile("`(\\w+Test)`").matcher(text);
        while (named.find()) {
            if (!Files.exists(TESTS.resolve(named.group(1) + ".java"))) tell("README names " + named.group(1) + ", which is not there");
        }
    }

    private static void remove(Path directory) throws IOException {
        try (Stream<Path> all = Files.walk(directory)) {
            for (Path path : all.sorted(Comparator.reverseOrder()).toList()) Files.delete(path);
        }
    }

    public static void main(String[] args) throws IOException, InterruptedException {
        List<String> lines = Files.readAllLines(README);
        Path temporary = Files.createTempDirectory("readme").toAbsolutePath();
        try {
            checkExample(lines, temporary);
            checkCommands(lines, temporary);
            checkNames(lines);
        } finally {
            remove(temporary);
        }
        System.out.println(wrong == 0 ? "README says what is so" : wrong + " things are not as README says");
        if (wrong != 0) System.exit(1);
    }
}
