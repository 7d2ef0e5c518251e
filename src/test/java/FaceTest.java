import java.lang.reflect.Constructor;
import java.lang.reflect.Field;
import java.lang.reflect.Method;
import java.lang.reflect.Modifier;
import java.util.ArrayList;
import java.util.List;

/** The class has the face of the document and no other. */
final class FaceTest {
    private static final String[] FACE = {
        "public int drum(int) IllegalArgumentException IllegalStateException",
        "public int age(int) IllegalArgumentException",
        "public int sample(int) IndexOutOfBoundsException IllegalStateException",
        "public int toss(int) IndexOutOfBoundsException",
        "public int bath(int,int) IndexOutOfBoundsException IllegalStateException",
        "public int warm(int,int) IndexOutOfBoundsException IllegalArgumentException",
        "public int pass(int) IllegalArgumentException",
        "public int sink(int,int,int,int) IndexOutOfBoundsException IllegalArgumentException IllegalStateException",
        "public int renew(int) IndexOutOfBoundsException",
        "public int ring(int) IndexOutOfBoundsException IllegalStateException",
        "public int sell(int) IndexOutOfBoundsException IllegalStateException",
        "public int set(int,int) IndexOutOfBoundsException IllegalArgumentException",
        "public int append(int) IllegalArgumentException IllegalStateException",
        "public int clearBuffer()",
        "public int firstError()",
        "public int obey() IllegalArgumentException",
        "public int stopped(int) IllegalArgumentException",
        "public int undo() IllegalStateException",
        "public int keep()",
        "public int restore() IllegalStateException",
        "public int drumOf(int,int) IndexOutOfBoundsException IllegalArgumentException",
        "public int sampleOf(int,int) IndexOutOfBoundsException IllegalArgumentException",
        "public int reading(int,int,int) IndexOutOfBoundsException IllegalArgumentException",
        "public int needle(int,int) IndexOutOfBoundsException IllegalArgumentException",
        "public int bathOf(int,int) IndexOutOfBoundsException IllegalArgumentException",
        "public int count(int) IllegalArgumentException",
        "public int noSink(int,int) IndexOutOfBoundsException",
        "public int noSale(int) IndexOutOfBoundsException",
        "public int ifSunk(int,int,int,int) IndexOutOfBoundsException IllegalArgumentException",
        "public int secondsTo(int,int,int,int) IndexOutOfBoundsException IllegalArgumentException",
        "public int readyIn(int) IndexOutOfBoundsException",
        "public int bestBath(int) IndexOutOfBoundsException",
        "public double readShare()",
        "public long digest()",
    };

    private FaceTest() {
    }

    public static void main(String[] args) {
        List<String> due = new ArrayList<>(List.of(FACE));
        List<String> hidden = new ArrayList<>();
        for (Method method : BitumenNeedle.class.getDeclaredMethods()) {
            if (method.isSynthetic()) {
                continue;
            }
            if (Modifier.isPrivate(method.getModifiers())) {
                hidden.add(method.getName());
            } else {
                Check.that("in the face: " + told(method), due.remove(told(method)));
            }
        }
        Check.same("missing in the face", due, List.of());
        for (String line : FACE) {
            String name = line.substring(line.lastIndexOf(' ', line.indexOf('(')) + 1, line.indexOf('('));
            Check.that("no private method is named " + name, !hidden.contains(name));
        }
        fields();
        Check.that("public and final", BitumenNeedle.class.getModifiers() == (Modifier.PUBLIC | Modifier.FINAL));
        Constructor<?>[] made = BitumenNeedle.class.getDeclaredConstructors();
        Check.equal("constructors", made.length, 1);
        Check.that("the constructor is public and has no parameter",
                Modifier.isPublic(made[0].getModifiers()) && made[0].getParameterCount() == 0);
        for (Class<?> inside : BitumenNeedle.class.getDeclaredClasses()) {
            int modifiers = inside.getModifiers();
            Check.that(inside + " is static and not public",
                    Modifier.isStatic(modifiers) && !Modifier.isPublic(modifiers) && !Modifier.isProtected(modifiers));
        }
        Check.finish("FaceTest");
    }

    private static void fields() {
        for (Field field : BitumenNeedle.class.getDeclaredFields()) {
            boolean isPrivate = Modifier.isPrivate(field.getModifiers());
            Check.that("NONE alone is not private: " + field.getName(), isPrivate != field.getName().equals("NONE"));
        }
        Check.equal("NONE", BitumenNeedle.NONE, -1);
    }

    private static String told(Method method) {
        StringBuilder told = new StringBuilder(Modifier.toString(method.getModifiers()));
        told.append(' ').append(method.getReturnType()).append(' ').append(method.getName()).append('(');
        String between = "";
        for (Class<?> parameter : method.getParameterTypes()) {
            told.append(between).append(parameter);
            between = ",";
        }
        told.append(')');
        for (Class<?> thrown : method.getExceptionTypes()) {
            told.append(' ').append(thrown.getSimpleName());
        }
        return told.toString();
    }
}
