import java.io.IOException;
import java.io.UncheckedIOException;
import java.net.URI;
import java.nio.file.Files;
import java.nio.file.Path;
import java.util.List;
import java.util.regex.Matcher;
import java.util.regex.Pattern;
import java.util.stream.Stream;
import javax.tools.JavaCompiler;
import javax.tools.SimpleJavaFileObject;
import javax.tools.ToolProvider;

/** README.md: its example is taken from there, so that it can't grow stale. It is run from the project's folder. */
public final class ReadmeTest {
    private static final Pattern EXAMPLE = Pattern.compile("```java\n(.*?)```", Pattern.DOTALL);
    private static final Pattern ANSWER = Pattern.compile("\\w+ (\\w+) = (.*); +// ([^: ]+):.*");
    private static final Pattern TEST = Pattern.compile("\\| (\\w+Test) \\|.*");

    public static void main(String[] args) {
        Checks.sentence("README.md says how to use the class", ReadmeTest::example);
        Checks.sentence("README.md says how to run its tests", ReadmeTest::everyTest);
        Checks.finish();
    }

    private static String readme() {
        try {
            return Files.readString(Path.of("README.md"));
        } catch (IOException e) {
            throw new UncheckedIOException(e);
        }
    }

    private static void example() {
        Matcher found = EXAMPLE.matcher(readme());
        Checks.due("whether there is an example", found.find() ? 1 : 0, 1);
        List<String> lines = found.group(1).lines().toList();
        StringBuilder program = new StringBuilder("public final class Example { public static void run() {\n");
        int calls = 0;
        for (String line : lines) {
            program.append(line).append('\n');
            Matcher answer = ANSWER.matcher(line);
            if (answer.matches()) {
                program.append(String.format("Checks.due(\"%s\", \"\" + %s, \"%s\");%n",
                        answer.group(2), answer.group(1), answer.group(3)));
                calls += answer.group(2).startsWith("x.") ? 1 : 0;
            }
        }
        Checks.due("calls of the example with their answers", calls, lines.stream().filter(l -> l.contains("= x.")).count());
        run(program.append("} }\n").toString());
    }

    /** The classes go where this test's own ones are, which .ci/run takes away again. */
    private static void run(String program) {
        JavaCompiler compiler = ToolProvider.getSystemJavaCompiler();
        String classes = System.getProperty("java.class.path");
        boolean compiled = compiler != null && compiler.getTask(null, null, null,
                List.of("-d", classes, "-cp", classes), null, List.of(new Source(program))).call();
        Checks.due("whether the example compiles", compiled ? 1 : 0, 1);
        if (!compiled) {
            return;
        }
        try {
            Class.forName("Example").getMethod("run").invoke(null);
        } catch (ReflectiveOperationException e) {
            throw new IllegalStateException("the example failed: " + e.getCause());
        }
    }

    private static void everyTest() {
        String told = readme().lines().map(TEST::matcher).filter(Matcher::matches).map(m -> m.group(1)).sorted().toList().toString();
        try (Stream<Path> files = Files.list(Path.of("src/test/java"))) {
            String there = files.map(f -> f.getFileName().toString()).filter(f -> f.endsWith("Test.java"))
                    .map(f -> f.replace(".java", "")).sorted().toList().toString();
            Checks.due("the tests that README.md lists", told, there);
        } catch (IOException e) {
            throw new UncheckedIOException(e);
        }
    }

    private static final class Source extends SimpleJavaFileObject {
        private final String program;

        Source(String program) {
            super(URI.create("string:///Example.java"), Kind.SOURCE);
            this.program = program;
        }

        @Override
        public CharSequence getCharContent(boolean ignoreEncodingErrors) {
            return program;
        }
    }
}
