import java.io.IOException;
import java.lang.reflect.Constructor;
import java.lang.reflect.Field;
import java.lang.reflect.Method;
import java.lang.reflect.Modifier;
import java.nio.file.Files;
import java.nio.file.Path;
import java.util.ArrayList;
import java.util.List;
import java.util.regex.Matcher;
import java.util.regex.Pattern;

/** The class has the face of the document and no other; run from the project's folder. */
final class FaceTest {
    private static final Path DOCUMENT = Path.of("../shared/DOC.md");
    private static final Path SOURCE = Path.of("src/main/java/BitumenNeedle.java");
    private static final Pattern BLOCK = Pattern.compile("(?s)## The public face\\s+```java\n(.*?)```");
    private static final Pattern PROMISED = Pattern.compile("(?m)^## Promise \\d+: .*\n\\s*`([^`]*)`");
    private static final Pattern AHEAD = Pattern.compile("Ahead of the calls (`.*`) the interface says: (----.*)\\.\n");
    private static final String[] FACE = {
        "public int drum(int) IllegalArgumentException IllegalStateException",
        "public int age(int) IllegalArgumentException",
        "public int sample(int) IndexOutOfBoundsException IllegalStateException",
        "public int toss(int) IndexOutOfBoundsException",
        "public int bath(int,int) IndexOutOfBoundsException IllegalStateException",
        "public int warm(int,int) IndexOutOfBoundsException IllegalArgumentException",
        "public int pass(int) IllegalArgumentException",
        "public int sink(int,int,int,int) IndexOutOfBoundsException IllegalArgumentException IllegalStateException",
        "public int renew(int) IndexOutOfBoundsException",
        "public int ring(int) IndexOutOfBoundsException IllegalStateException",
        "public int sell(int) IndexOutOfBoundsException IllegalStateException",
        "public int set(int,int) IndexOutOfBoundsException IllegalArgumentException",
        "public int append(int) IllegalArgumentException IllegalStateException",
        "public int clearBuffer()",
        "public int firstError()",
        "public int obey() IllegalArgumentException",
        "public int stopped(int) IllegalArgumentException",
        "public int undo() IllegalStateException",
        "public int keep()",
        "public int restore() IllegalStateException",
        "public int drumOf(int,int) IndexOutOfBoundsException IllegalArgumentException",
        "public int sampleOf(int,int) IndexOutOfBoundsException IllegalArgumentException",
        "public int reading(int,int,int) IndexOutOfBoundsException IllegalArgumentException",
        "public int needle(int,int) IndexOutOfBoundsException IllegalArgumentException",
        "public int bathOf(int,int) IndexOutOfBoundsException IllegalArgumentException",
        "public int count(int) IllegalArgumentException",
        "public int noSink(int,int) IndexOutOfBoundsException",
        "public int noSale(int) IndexOutOfBoundsException",
        "public int ifSunk(int,int,int,int) IndexOutOfBoundsException IllegalArgumentException",
        "public int secondsTo(int,int,int,int) IndexOutOfBoundsException IllegalArgumentException",
        "public int readyIn(int) IndexOutOfBoundsException",
        "public int bestBath(int) IndexOutOfBoundsException",
        "public double readShare()",
        "public long digest()",
    };

    private FaceTest() {
    }

    public static void main(String[] args) throws IOException {
        List<String> due = new ArrayList<>(List.of(FACE));
        List<String> hidden = new ArrayList<>();
        for (Method method : BitumenNeedle.class.getDeclaredMethods()) {
            if (method.isSynthetic()) {
                continue;
            }
            if (Modifier.isPrivate(method.getModifiers())) {
                hidden.add(method.getName());
            } else {
                Check.that("in the face: " + told(method), due.remove(told(method)));
            }
        }
        Check.same("missing in the face", due, List.of());
        for (String line : FACE) {
            String name = line.substring(line.lastIndexOf(' ', line.indexOf('(')) + 1, line.indexOf('('));
            Check.that("no private method is named " + name, !hidden.contains(name));
        }
        fields();
        Check.that("public and final", BitumenNeedle.class.getModifiers() == (Modifier.PUBLIC | Modifier.FINAL));
        Constructor<?>[] made = BitumenNeedle.class.getDeclaredConstructors();
        Check.equal("constructors", made.length, 1);
        Check.that("the constructor is public and has no parameter",
                Modifier.isPublic(made[0].getModifiers()) && made[0].getParameterCount() == 0);
        for (Class<?> inside : BitumenNeedle.class.getDeclaredClasses()) {
            int modifiers = inside.getModifiers();
            Check.that(inside + " is static and not public",
                    Modifier.isStatic(modifiers) && !Modifier.isPublic(modifiers) && !Modifier.isProtected(modifiers));
        }
        asWritten(Files.readString(DOCUMENT), Files.readString(SOURCE).replaceAll("[ \n]+", " "));
        Check.finish("FaceTest");
    }

    /** The lines of the document's code block stand in the class, in their order, names of parameters included. */
    private static void asWritten(String document, String source) {
        Matcher block = BLOCK.matcher(document);
        if (!block.find()) {
            Check.that("the document has its code block", false);
            return;
        }
        List<String> signatures = new ArrayList<>();
        int behind = 0;
        for (String line : block.group(1).lines().map(String::trim).filter(l -> l.startsWith("public ")).toList()) {
            String due = line.endsWith(";") && !line.contains("=") ? line.replaceAll(";$", " {") : line;
            int at = source.indexOf(due, behind);
            Check.that("in the class, in its place: " + line, at >= 0);
            behind = Math.max(at, behind);
            if (line.contains("(")) {
                signatures.add(line.replaceAll("^public |;$", ""));
            }
        }
        Check.equal("signatures in the code block", signatures.size(), FACE.length + 1);
        promised(document, signatures);
        headings(document, source);
    }

    private static void promised(String document, List<String> signatures) {
        Matcher promise = PROMISED.matcher(document);
        List<String> found = new ArrayList<>();
        while (promise.find()) {
            found.add(promise.group(1));
        }
        Check.same("the signatures ahead of the promises", found, signatures);
    }

    private static void headings(String document, String source) {
        Matcher ahead = AHEAD.matcher(document);
        int found = 0;
        while (ahead.find()) {
            found++;
            int heading = source.indexOf("// " + ahead.group(2) + " ");
            int next = source.indexOf("// ----", heading + 1);
            Check.that("a heading of the class: " + ahead.group(2), heading >= 0);
            for (String name : ahead.group(1).replaceAll("[` ]", "").split(",")) {
                int call = Math.max(source.indexOf("public int " + name + "("), Math.max(
                        source.indexOf("public double " + name + "("), source.indexOf("public long " + name + "(")));
                Check.that(name + " stands below " + ahead.group(2), call > heading && call < next);
            }
        }
        Check.equal("headings that the document tells", found, 6);
    }

    private static void fields() {
        for (Field field : BitumenNeedle.class.getDeclaredFields()) {
            boolean isPrivate = Modifier.isPrivate(field.getModifiers());
            Check.that("NONE alone is not private: " + field.getName(), isPrivate != field.getName().equals("NONE"));
        }
        Check.equal("NONE", BitumenNeedle.NONE, -1);
    }

    private static String told(Method method) {
        StringBuilder told = new StringBuilder(Modifier.toString(method.getModifiers()));
        told.append(' ').append(method.getReturnType()).append(' ').append(method.getName()).append('(');
        String between = "";
        for (Class<?> parameter : method.getParameterTypes()) {
            told.append(between).append(parameter);
            between = ",";
        }
        told.append(')');
        for (Class<?> thrown : method.getExceptionTypes()) {
            told.append(' ').append(thrown.getSimpleName());
        }
        return told.toString();
    }
}
