import java.io.IOException;
import java.nio.file.Files;
import java.nio.file.Path;
import java.util.List;
import java.util.Set;
import java.util.regex.Matcher;
import java.util.regex.Pattern;

/** What of ../shared/LANGUAGE.md can be seen in the text of the class; run from the project's folder. */
final class LanguageTest {
    private static final Path SOURCE = Path.of("src/main/java/BitumenNeedle.java");
    private static final Set<String> LIBRARY = Set.of("Math.floorDiv", "Math.max", "Math.min", "Math.abs",
            "Integer.bitCount", "System.arraycopy");
    private static final Set<String> EXCEPTIONS = Set.of("IllegalStateException", "IllegalArgumentException",
            "IndexOutOfBoundsException");

    private LanguageTest() {
    }

    public static void main(String[] args) throws IOException {
        String text = Files.readString(SOURCE);
        Check.that("characters are plain ASCII", text.chars().allMatch(sign -> sign < 127));
        String code = withoutCommentsAndTexts(text);
        for (String word : new String[] {"import", "package", "try", "catch", "finally", "synchronized", "assert",
            "instanceof", "record", "enum", "var", "yield", "protected", "native", "transient", "volatile"}) {
            Check.that("no word " + word, !Pattern.compile("\\b" + word + "\\b").matcher(code).find());
        }
        for (String sign : new String[] {"->", "::", "@", "...", "<>"}) {
            Check.that("no sign " + sign, !code.contains(sign));
        }
        library(code);
        classes(code);
        methods(code);
        Check.finish("LanguageTest");
    }

    private static String withoutCommentsAndTexts(String text) {
        return text.replaceAll("(?s)/\\*.*?\\*/", "").replaceAll("//[^\n]*", "")
                .replaceAll("\"[^\"\n]*\"", "\"\"").replaceAll("'[^'\n]+'", "'x'");
    }

    private static void library(String code) {
        Matcher calls = Pattern.compile("\\b([A-Z][A-Za-z]+\\.[a-z][A-Za-z]*)\\(").matcher(code);
        while (calls.find()) {
            boolean own = code.contains("class " + calls.group(1).replaceAll("\\..*", " "));
            Check.that("a library call that is listed: " + calls.group(1), own || LIBRARY.contains(calls.group(1)));
        }
        Matcher thrown = Pattern.compile("throw ([^;]*);").matcher(code);
        while (thrown.find()) {
            Check.that("thrown as the rules want: " + thrown.group(1),
                    EXCEPTIONS.stream().anyMatch(e -> thrown.group(1).equals("new " + e + "(\"\")")));
        }
        Matcher statics = Pattern.compile("\\bstatic (?!final |int |long |boolean |void |String |double )")
                .matcher(code);
        Check.that("static fields are final", !statics.find());
        Matcher shared = Pattern.compile("\\bstatic [a-zA-Z\\[\\]]+ [a-zA-Z]+( =|;)").matcher(code);
        Check.that("no static state", !shared.find());
    }

    private static void classes(String code) {
        Matcher inside = Pattern.compile("\\bclass ").matcher(code);
        int classes = 0;
        while (inside.find()) {
            classes++;
        }
        Check.that("some twelve classes at most", classes <= 12);
    }

    /** A method begins on a line of its own that ends with "{", and ends with "}" below the same column. */
    private static void methods(String code) {
        List<String> lines = code.lines().toList();
        Pattern head = Pattern.compile("( {4}| {8})(public|private|static|int|void|boolean|long|String)\\b.*\\(.*");
        for (int start = 0; start < lines.size(); start++) {
            Matcher method = head.matcher(lines.get(start));
            if (!method.matches() || lines.get(start).endsWith(";") || lines.get(start).contains("=")) {
                continue;
            }
            int end = start;
            while (!lines.get(end).equals(method.group(1) + "}")) {
                end++;
            }
            Check.that("short: " + lines.get(start).trim(), end - start <= 60);
            Check.that("at most seven parameters: " + lines.get(start).trim(),
                    lines.get(start).chars().filter(sign -> sign == ',').count() <= 6);
        }
    }
}
