import java.io.IOException;
import java.io.UncheckedIOException;
import java.lang.reflect.Method;
import java.lang.reflect.Modifier;
import java.net.URL;
import java.net.URLClassLoader;
import java.nio.file.Files;
import java.nio.file.Path;
import java.util.ArrayList;
import java.util.Comparator;
import java.util.List;
import java.util.function.BiConsumer;
import java.util.function.IntSupplier;
import java.util.regex.Matcher;
import java.util.regex.Pattern;
import java.util.stream.Stream;
import javax.tools.JavaCompiler;
import javax.tools.ToolProvider;

/**
 * README.md: the program that it shows is compiled and run as it stands there, each answer compared with
 * the one behind the call; and what it says of each call is what the document says.
 */
public final class ReadmeTest {
    private static final Pattern SHOWN_CALL =
            Pattern.compile("(?:int (\\w+) = )?(x\\.\\w+\\(.*\\)); *// (-?\\d+|throws \\w+)(?:: .+)?");

    /** A line of the program with what it shows to be its answer. */
    private record Shown(String line, String want) {
    }

    public static void main(String[] args) throws Exception {
        String readme = Files.readString(Path.of("README.md"));
        String document = Files.readString(Path.of("../shared/DOC.md"));
        List<String> program = program(readme);
        answersAsShown(program);
        everyCallIsShown(String.join("\n", program));
        callsInTheDocumentsWords(readme, document);
        testsAreNamed(readme);
        Check.end("ReadmeTest");
    }

    /** All pieces of Java as one, since each goes on where the one ahead of it ended. */
    private static List<String> program(String readme) {
        List<String> lines = new ArrayList<>();
        Matcher pieces = Pattern.compile("(?s)```java\n(.*?)```").matcher(readme);
        while (pieces.find()) {
            lines.addAll(pieces.group(1).lines().filter(line -> !line.isBlank()).toList());
        }
        return lines;
    }

    private static void answersAsShown(List<String> program) throws Exception {
        List<Shown> shown = new ArrayList<>();
        String source = source(program, shown);
        Check.equal("README.md shows calls with their answers", "true", String.valueOf(shown.size() > 25));
        Check.equal("calls on one object are few enough", "true", String.valueOf(shown.size() <= Subject.MOST_CALLS));
        List<Integer> run = new ArrayList<>();
        BiConsumer<Integer, IntSupplier> answers = (number, answer) -> {
            run.add(number);
            Check.equal("README.md: " + shown.get(number).line, shown.get(number).want, Check.outcome(answer));
        };
        runCompiled(source, answers);
        Check.equal("lines of README.md that were run", String.valueOf(shown.size()), String.valueOf(run.size()));
    }

    private static String source(List<String> program, List<Shown> shown) {
        StringBuilder source = new StringBuilder("import java.util.function.BiConsumer;\nimport java.util.function.IntSupplier;\n"
                + "public final class ReadmeExample {\n"
                + "public static void run(BiConsumer<Integer, IntSupplier> answers) {\n");
        for (String line : program) {
            Matcher call = SHOWN_CALL.matcher(line);
            if (call.matches()) {
                String name = call.group(1);
                source.append(name == null ? "" : "int " + name + " = " + call.group(2) + ";\n");
                String answer = name == null ? call.group(2) : name;
                source.append("answers.accept(" + shown.size() + ", () -> " + answer + ");\n");
                shown.add(new Shown(line, call.group(3).replace("throws ", "throws.")));
            } else {
                Check.equal("README.md, a line of Java that shows no answer", "NetworkDatabase x = new NetworkDatabase();", line);
                source.append(line).append('\n');
            }
        }
        return source.append("}\n}\n").toString();
    }

    private static void runCompiled(String source, BiConsumer<Integer, IntSupplier> answers) throws Exception {
        Path work = Files.createTempDirectory("readme");
        try {
            Path file = Files.writeString(work.resolve("ReadmeExample.java"), source);
            JavaCompiler compiler = ToolProvider.getSystemJavaCompiler();
            int failed = compiler.run(null, null, null, "-Xlint:all", "--release", "17", "-cp",
                    System.getProperty("java.class.path"), "-d", work.toString(), file.toString());
            Check.equal("README.md's program compiles", "0", String.valueOf(failed));
            if (failed == 0) {
                try (URLClassLoader loader = new URLClassLoader(new URL[] {work.toUri().toURL()})) {
                    loader.loadClass("ReadmeExample").getMethod("run", BiConsumer.class).invoke(null, answers);
                }
            }
        } finally {
            delete(work);
        }
    }

    private static void delete(Path directory) throws IOException {
        try (Stream<Path> files = Files.walk(directory)) {
            files.sorted(Comparator.reverseOrder()).forEach(file -> {
                try {
                    Files.delete(file);
                } catch (IOException e) {
                    throw new UncheckedIOException(e);
                }
            });
        }
    }

    private static void everyCallIsShown(String program) {
        for (Method method : NetworkDatabase.class.getDeclaredMethods()) {
            if (Modifier.isPublic(method.getModifiers())) {
                boolean shown = program.contains("x." + method.getName() + "(");
                Check.equal("README.md's program shows " + method.getName(), "true", String.valueOf(shown));
            }
        }
        for (String thrown : List.of("IllegalArgumentException", "IllegalStateException", "IndexOutOfBoundsException")) {
            Check.equal("README.md's program shows " + thrown, "true", String.valueOf(program.contains("// throws " + thrown)));
        }
    }

    /** For each promise the same sentences, in the same order but for the returned value's, no more and no less. */
    private static void callsInTheDocumentsWords(String readme, String document) {
        Matcher promises = Pattern.compile("(?s)\n## Promise (\\d+): [^\n]*\n(.*?)(?=\n## )").matcher(document);
        int found = 0;
        while (promises.find()) {
            found++;
            String due = promised(promises.group(2));
            String face = due.substring(0, due.indexOf(')') + 1);
            Check.equal("README.md on promise " + promises.group(1), due, said(readme, face));
        }
        Check.equal("promises of the document", "26", String.valueOf(found));
    }

    /** A promise in the form in which README.md tells it: the returned value ahead of the parameters. */
    private static String promised(String promise) {
        String text = promise.replaceAll("\\) throws [^`]*`:", ")`:");
        StringBuilder does = new StringBuilder();
        StringBuilder listed = new StringBuilder();
        for (String line : text.lines().toList()) {
            boolean isListed = line.startsWith("- ") || line.startsWith("Throws ");
            StringBuilder part = isListed ? listed : does;
            part.append(line.startsWith("Throws ") ? "- " : "").append(line).append(' ');
        }
        return plain(does + " " + listed);
    }

    /** README.md's point on the call with this face: up to the next one, a heading, a piece of Java or the end. */
    private static String said(String readme, String face) {
        int start = readme.indexOf("\n- " + face);
        if (start < 0) {
            return "nothing";
        }
        Matcher end = Pattern.compile("\n- |\n#|\n```|\n\n|\\z").matcher(readme);
        boolean ends = end.find(start + 1);
        return plain(readme.substring(start + 3, ends ? end.start() : readme.length()));
    }

    private static String plain(String text) {
        return text.replaceAll("\\s+", " ").trim();
    }

    private static void testsAreNamed(String readme) throws IOException {
        try (Stream<Path> files = Files.list(Path.of("src/test/java"))) {
            for (Path file : files.sorted().toList()) {
                String name = file.getFileName().toString().replace(".java", "");
                boolean named = readme.contains("`" + name + "`");
                Check.equal("README.md names " + name, "true", String.valueOf(named));
            }
        }
    }
}
