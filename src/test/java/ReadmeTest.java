import java.io.File;
import java.io.IOException;
import java.net.URL;
import java.net.URLClassLoader;
import java.nio.file.Files;
import java.nio.file.Path;
import java.util.ArrayList;
import java.util.Comparator;
import java.util.List;
import java.util.regex.Matcher;
import java.util.regex.Pattern;
import java.util.stream.Stream;
import javax.tools.JavaCompiler;
import javax.tools.ToolProvider;

/** Each example of README.md answers as it says there; each test, and each STATUS of the document, is told there. */
public final class ReadmeTest {
    private static final Path README = Path.of("README.md");
    private static final Path DOCUMENT = Path.of("../shared/DOC.md");
    private static final Path TESTS = Path.of("src/test/java");
    private static final Pattern BLOCK = Pattern.compile("(?ms)^```java\n(.*?)^```$");
    private static final Pattern EXAMPLE = Pattern.compile("(x\\..*\\));\\s+// (-?\\d+|true|false)(:.*)?");
    private static final int STATUS_MOST = 11;

    private final List<String> calls = new ArrayList<>();
    private final List<String> dues = new ArrayList<>();
    private final StringBuilder statements = new StringBuilder();
    private final StringBuilder members = new StringBuilder();

    public static void main(String[] args) throws IOException, ReflectiveOperationException {
        String readme = Files.readString(README);
        new ReadmeTest().examples(readme);
        eachTestIsNamed(readme);
        eachStatusIsTold(readme);
        Checks.end();
    }

    private void examples(String readme) throws IOException, ReflectiveOperationException {
        Matcher block = BLOCK.matcher(readme);
        while (block.find()) {
            if (block.group(1).contains("static ")) {
                members.append(block.group(1));
            } else {
                block.group(1).lines().forEach(this::takeLine);
            }
        }
        Checks.due("examples of README.md are found", calls.size() > 40, true);
        List<String> answers = answers();
        Checks.due("examples of README.md that were run", answers.size(), calls.size());
        for (int i = 0; i < answers.size() && i < calls.size(); i++) {
            Checks.due("README.md: " + calls.get(i), answers.get(i), dues.get(i));
        }
    }

    private void takeLine(String line) {
        Matcher example = EXAMPLE.matcher(line);
        if (example.matches()) {
            calls.add(example.group(1));
            dues.add(example.group(2));
            statements.append("answers.add(String.valueOf(").append(example.group(1)).append("));\n");
        } else {
            Checks.due("README.md tells what it answers: " + line, line.startsWith("x."), false);
            statements.append(line).append('\n');
        }
    }

    private List<String> answers() throws IOException, ReflectiveOperationException {
        Path out = Files.createTempDirectory("readme");
        try {
            Path source = out.resolve("ReadmeExamples.java");
            Files.writeString(source, "public final class ReadmeExamples {\n"
                    + "public static final java.util.List<String> answers = new java.util.ArrayList<>();\n"
                    + members + "public static void run() {\n" + statements + "}\n}\n");
            JavaCompiler javac = ToolProvider.getSystemJavaCompiler();
            String path = System.getProperty("java.class.path");
            int code = javac.run(null, null, null, "-cp", path, "-d", out.toString(), source.toString());
            Checks.due("the examples of README.md are compiled", code, 0);
            return code == 0 ? run(out) : new ArrayList<>();
        } finally {
            try (Stream<Path> all = Files.walk(out)) {
                all.sorted(Comparator.reverseOrder()).map(Path::toFile).forEach(File::delete);
            }
        }
    }

    @SuppressWarnings("unchecked")
    private static List<String> run(Path out) throws IOException, ReflectiveOperationException {
        try (URLClassLoader loader = new URLClassLoader(new URL[] {out.toUri().toURL()})) {
            Class<?> examples = loader.loadClass("ReadmeExamples");
            examples.getMethod("run").invoke(null);
            return (List<String>) examples.getField("answers").get(null);
        }
    }

    private static void eachTestIsNamed(String readme) throws IOException {
        try (Stream<Path> files = Files.list(TESTS)) {
            files.map(file -> file.getFileName().toString()).filter(name -> name.endsWith("Test.java")).sorted().forEach(name ->
                    Checks.due("README.md names " + name, readme.contains("`" + name.replace(".java", "") + "`"), true));
        }
    }

    /** A row of the table for each STATUS, in the words of part 5 of the document's terms up to a bracket. */
    private static void eachStatusIsTold(String readme) throws IOException {
        String document = Files.readString(DOCUMENT);
        String terms = document.substring(document.indexOf("==== 5."));
        for (int status = 1; status <= STATUS_MOST; status++) {
            Matcher told = Pattern.compile("[:.] " + status + " ([^.(]*?)( \\(or sort\\)| \\([^)]*\\))?\\. ").matcher(terms);
            Checks.due("DOC.md tells STATUS " + status, told.find(), true);
            String words = told.group(1) + (" (or sort)".equals(told.group(2)) ? ", or sort" : "");
            Checks.due("README.md tells STATUS " + status + ": " + words, readme.contains("| " + status + " | " + words + " |"), true);
        }
    }
}
