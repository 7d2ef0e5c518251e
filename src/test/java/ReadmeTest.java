import java.io.IOException;
import java.net.URL;
import java.net.URLClassLoader;
import java.nio.file.Files;
import java.nio.file.Path;
import java.util.ArrayList;
import java.util.List;
import java.util.function.Supplier;
import java.util.regex.Matcher;
import java.util.regex.Pattern;
import java.util.stream.Stream;

/**
 * The example of calls in README.md compiles, and its calls answer what the comments behind them tell; run from the
 * project's folder.
 */
final class ReadmeTest {
    private static final Path README = Path.of("README.md");
    private static final Pattern BLOCK = Pattern.compile("(?s)```java\n(.*?)```");
    private static final Pattern TOLD = Pattern.compile("(lab\\..*\\)); +// (throws [A-Za-z]+|-?[0-9.]+)(?:: .*)?");

    private ReadmeTest() {
    }

    public static void main(String[] args) throws Exception {
        String readme = Files.readString(README);
        for (String words : new String[] {"## How to use it", "## How to run its tests", "bash .ci/run"}) {
            Check.that("README.md says: " + words, readme.contains(words));
        }
        testsAreTold(readme);
        example(readme);
        Check.finish("ReadmeTest");
    }

    private static void testsAreTold(String readme) throws IOException {
        try (Stream<Path> files = Files.list(Path.of("src/test/java"))) {
            for (String name : files.map(file -> file.getFileName().toString()).sorted().toList()) {
                boolean isTest = name.endsWith("Test.java");
                Check.that("README.md tells of " + name,
                        !isTest || readme.contains("`" + name.replace(".java", "") + "`"));
            }
        }
    }

    private static void example(String readme) throws Exception {
        Matcher block = BLOCK.matcher(readme);
        Check.that("README.md has an example", block.find());
        List<String> calls = new ArrayList<>();
        List<String> due = new ArrayList<>();
        StringBuilder source = new StringBuilder("import java.util.*;\n"
                + "public final class ReadmeExample implements java.util.function.Supplier<List<String>> {\n"
                + "public List<String> get() {\nList<String> told = new ArrayList<>();\n");
        for (String line : block.group(1).lines().toList()) {
            Matcher told = TOLD.matcher(line);
            if (told.matches()) {
                calls.add(told.group(1));
                due.add(told.group(2));
                source.append("try { told.add(String.valueOf(").append(told.group(1)).append(")); }\n")
                        .append("catch (RuntimeException e) { told.add(\"throws \" + e.getClass().getSimpleName()); }\n");
            } else {
                Check.that("a call tells its answer: " + line, !line.startsWith("lab."));
                source.append(line).append('\n');
            }
        }
        source.append("return told;\n}\n}\n");
        Check.that("the example has calls", calls.size() >= 10);
        compare(calls, answers(source.toString()), due);
    }

    private static void compare(List<String> calls, List<String> got, List<String> due) {
        Check.equal("answers of the example", got.size(), due.size());
        for (int call = 0; call < Math.min(got.size(), due.size()); call++) {
            Check.same("in README.md, " + calls.get(call), got.get(call), due.get(call));
        }
    }

    private static List<String> answers(String source) throws Exception {
        Path folder = Files.createTempDirectory("readme");
        Path file = folder.resolve("ReadmeExample.java");
        Path compiled = folder.resolve("ReadmeExample.class");
        try {
            Files.writeString(file, source);
            int ended = new ProcessBuilder("javac", "-encoding", "UTF-8", "-cp", System.getProperty("java.class.path"),
                    "-d", folder.toString(), file.toString()).inheritIO().start().waitFor();
            Check.equal("the example compiles, javac", ended, 0);
            if (ended != 0) {
                return List.of();
            }
            try (URLClassLoader loader = new URLClassLoader(new URL[] {folder.toUri().toURL()})) {
                return told(loader.loadClass("ReadmeExample").getConstructor().newInstance());
            }
        } finally {
            Files.deleteIfExists(compiled);
            Files.deleteIfExists(file);
            Files.deleteIfExists(folder);
        }
    }

    private static List<String> told(Object example) {
        List<String> told = new ArrayList<>();
        if (example instanceof Supplier<?> supplier && supplier.get() instanceof List<?> answers) {
            for (Object answer : answers) {
                told.add(String.valueOf(answer));
            }
        }
        return told;
    }
}
