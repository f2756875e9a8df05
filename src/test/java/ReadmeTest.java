import java.io.IOException;
import java.lang.reflect.InvocationTargetException;
import java.net.URL;
import java.net.URLClassLoader;
import java.nio.file.Files;
import java.nio.file.Path;
import java.util.ArrayList;
import java.util.List;
import java.util.TreeSet;
import java.util.regex.Matcher;
import java.util.regex.Pattern;
import java.util.stream.Stream;

/** What README.md shows is so: its examples answer as it says, its calls are the document's, its commands work. */
public final class ReadmeTest {
    private static final Path README = Path.of("README.md");
    private static final Path ROOM = Path.of("build/readme");
    private static final String EXAMPLE = "ReadmeExample";
    /** A call and, in its comment, the answer; what follows the answer behind a colon only tells about it. */
    private static final Pattern CALL = Pattern.compile("(wheel\\..*\\));\\s+// ((?:throws )?[^\\s:,]+)(?::.*)?");
    private static final Pattern SIGNATURE = Pattern.compile("- `((?:int|long|double) [^`]*)`:.*");

    private ReadmeTest() {
    }

    public static void main(String[] arguments) throws IOException, InterruptedException, ReflectiveOperationException {
        List<String> lines = Files.readAllLines(README);
        examples(blocks(lines, "java"));
        calls(lines);
        commands(blocks(lines, "sh"));
        tests(Files.readString(README));
        Check.end();
    }

    private static List<String> blocks(List<String> lines, String language) {
        List<String> found = new ArrayList<>();
        boolean inside = false;
        for (String line : lines) {
            if (line.startsWith("```")) {
                inside = line.equals("```" + language);
            } else if (inside) {
                found.add(line);
            }
        }
        return found;
    }

    private static void examples(List<String> example)
            throws IOException, InterruptedException, ReflectiveOperationException {
        StringBuilder body = new StringBuilder();
        List<String> calls = new ArrayList<>();
        List<String> due = new ArrayList<>();
        for (String line : example) {
            Matcher call = CALL.matcher(line);
            if (call.matches()) {
                body.append("note(() -> ").append(call.group(1)).append(");\n");
                calls.add(call.group(1));
                due.add(call.group(2));
            } else {
                Check.dueThat("the example does not tell the answer of " + line, !line.startsWith("wheel."));
                body.append(line).append("\n");
            }
        }
        List<String> got = answers(body.toString());
        Check.due("calls with an answer", got.size(), due.size());
        for (int place = 0; place < Math.min(got.size(), due.size()); place++) {
            Check.dueThat(calls.get(place) + " answers " + got.get(place) + ", README.md says " + due.get(place),
                    got.get(place).equals(due.get(place)));
        }
        Check.dueThat("there is an example with answers", due.size() > 10);
        Check.dueThat("the example shows a refused call", due.contains("throws IllegalArgumentException"));
        Check.dueThat("the example shows NONE", showsNone(calls, due));
    }

    private static boolean showsNone(List<String> calls, List<String> due) {
        for (int place = 0; place < due.size(); place++) {
            if (calls.get(place).startsWith("wheel.best(") && due.get(place).equals("-1")) {
                return true;
            }
        }
        return false;
    }

    /** Compiles the example as the body of a method, and runs it. */
    private static List<String> answers(String body) throws IOException, InterruptedException, ReflectiveOperationException {
        String source = "import java.util.*;\n"
                + "public final class " + EXAMPLE + " {\n"
                + "private static final List<String> ANSWERS = new ArrayList<>();\n"
                + "private static void note(java.util.concurrent.Callable<Object> call) {\n"
                + "try { ANSWERS.add(String.valueOf(call.call())); }\n"
                + "catch (Exception thrown) { ANSWERS.add(\"throws \" + thrown.getClass().getSimpleName()); }\n"
                + "}\n"
                + "public static List<String> answers() {\n" + body + "return ANSWERS;\n}\n}\n";
        Files.createDirectories(ROOM);
        Path file = ROOM.resolve(EXAMPLE + ".java");
        Files.writeString(file, source);
        if (!endsWell("javac", "-encoding", "UTF-8", "-cp", System.getProperty("java.class.path"), "-d", ROOM.toString(),
                file.toString())) {
            return List.of();
        }
        try (URLClassLoader loader = new URLClassLoader(new URL[] {ROOM.toUri().toURL()})) {
            return run(loader.loadClass(EXAMPLE));
        }
    }

    private static List<String> run(Class<?> example) throws ReflectiveOperationException {
        List<String> answers = new ArrayList<>();
        try {
            for (Object answer : (List<?>) example.getMethod("answers").invoke(null)) {
                answers.add((String) answer);
            }
        } catch (InvocationTargetException thrown) {
            Check.dueThat("the example ended with " + thrown.getCause(), false);
        }
        return answers;
    }

    private static void calls(List<String> lines) throws IOException {
        List<String> listed = new ArrayList<>();
        for (String line : lines) {
            Matcher signature = SIGNATURE.matcher(line);
            if (signature.matches()) {
                listed.add(signature.group(1));
            }
        }
        List<String> due = Face.signatures();
        Check.dueThat("README.md lists " + listed + ", the document " + due, listed.equals(due));
        String text = String.join("\n", lines);
        Check.dueThat("README.md shows the constructor", text.contains("new FlashRatchet()"));
        Check.dueThat("README.md names the constant", text.contains("`FlashRatchet.NONE` is " + FlashRatchet.NONE));
    }

    /** The first command is the script that runs this test too, so that only the others are run from here. */
    private static void commands(List<String> commands) throws IOException, InterruptedException {
        Check.dueThat("the first command is " + commands, commands.indexOf(".ci/run") == 0);
        Check.dueThat(".ci/run can be executed", Files.isExecutable(Path.of(".ci/run")));
        for (String command : commands.subList(1, commands.size())) {
            endsWell("sh", "-c", command);
        }
    }

    private static boolean endsWell(String... command) throws IOException, InterruptedException {
        Process process = new ProcessBuilder(command).redirectErrorStream(true).start();
        String printed = new String(process.getInputStream().readAllBytes());
        int ended = process.waitFor();
        Check.due(String.join(" ", command) + " printed " + printed + "and", ended, 0);
        return ended == 0;
    }

    /** Each test of the project is told, and no other. */
    private static void tests(String readme) throws IOException {
        TreeSet<String> there = new TreeSet<>();
        try (Stream<Path> files = Files.list(Path.of("src/test/java"))) {
            for (Path file : (Iterable<Path>) files::iterator) {
                if (Files.readString(file).contains("void main(String")) {
                    there.add(file.getFileName().toString().replace(".java", ""));
                }
            }
        }
        TreeSet<String> told = new TreeSet<>();
        Matcher name = Pattern.compile("`(\\w+Test)`").matcher(readme);
        while (name.find()) {
            told.add(name.group(1));
        }
        Check.dueThat("README.md tells " + told + ", there are " + there, told.equals(there));
    }
}
