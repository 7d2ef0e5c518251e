import java.lang.reflect.InvocationTargetException;
import java.lang.reflect.Method;
import java.util.Arrays;
import java.util.HashMap;
import java.util.Map;
import java.util.TreeMap;

/** Long runs of calls, always the same ones, on the class and on the model; all answers and digests must agree. */
final class ModelTest {
    private static final int RUNS = 1500;
    private static final int STEPS = 250;
    // An object is good for so many calls, and no step makes more than so many.
    private static final int USE = 512;
    private static final int MOST_OF_STEP = 150;
    private static final String[] PARTS = {"s#d", "b#s#b", "b#s-", "n#n#s*100/5", "n#n#s*100/5", "n#n#s*#w/#t",
        "o#s", "$#d", "+#m", "+#m"};
    private static final String SIGNS = "sbno$+;-*/0123456789x";

    private final Map<String, Method> classCalls = callsOf(BitumenNeedle.class);
    private final Map<String, Method> modelCalls = callsOf(Model.class);
    private final Map<String, Integer> seen = new TreeMap<>();
    private BitumenNeedle real;
    private Model model;
    private long seed = 20261119L;
    private final StringBuilder run = new StringBuilder();
    private boolean agree = true;
    private int used;

    private ModelTest() {
    }

    public static void main(String[] args) {
        new ModelTest().goThrough();
        Check.finish("ModelTest");
    }

    private void goThrough() {
        for (int number = 0; number < RUNS && agree; number++) {
            real = new BitumenNeedle();
            model = new Model();
            run.setLength(0);
            used = 0;
            prepare(number);
            for (int step = 0; step < STEPS && used <= USE - MOST_OF_STEP && agree; step++) {
                anyCall();
                compareAll("digest");
            }
            Check.that("no object is used for more than 512 calls, but for " + used, used <= USE);
        }
        for (String due : new String[] {"sell 0", "sell 1", "sell 2", "sell 3", "noSale 0", "noSale 9", "noSale 10",
            "noSale 11", "noSale 12", "noSale 15", "noSink 0", "noSink 1", "noSink 2", "noSink 3", "noSink 4",
            "stop 1", "stop 2", "stop 3", "stop 4", "stop 8", "stop 9", "stop 10", "stop 11", "stop 12", "stop 13",
            "stop 14", "stop 15", "stop -1", "none 0", "none 5", "none 6", "none 7", "undo IllegalStateException",
            "restore IllegalStateException", "append IllegalStateException", "drum IllegalStateException",
            "sample IllegalStateException", "bath IllegalStateException", "secondsTo -1", "readyIn 0", "readyIn -1"}) {
            Check.that("the runs come by: " + due, seen.containsKey(due));
        }
    }

    /** Most runs begin with samples that are warm, so that needles sink. */
    private void prepare(int number) {
        int drums = 1 + next(4);
        for (int drum = 0; drum < drums && number % 5 != 0; drum++) {
            same("drum", 20 + next(281));
        }
        for (int sample = 0; sample < 6 && number % 5 != 0; sample++) {
            same("sample", next(drums));
            same("bath", sample, sample % 3);
        }
        if (number % 5 != 0) {
            same("pass", 40);
        }
        // In some runs one needle alone reads all, which a sale is refused for.
        for (int sink = 0; sink < 20 && number % 5 > 1; sink++) {
            same("sink", number % 5 == 2 ? 0 : next(3), next(6), 100, 5);
        }
    }

    private void anyCall() {
        switch (next(34)) {
            case 0 -> same("drum", around(20, 300));
            case 1 -> same("age", around(1, 99));
            case 2, 3 -> same("sample", around(0, 3));
            case 4 -> same("toss", around(0, 7));
            case 5, 6 -> same("bath", around(0, 7), around(-1, 2));
            case 7 -> same("warm", around(0, 2), next(3) == 0 ? around(0, 900) : 200 + next(100));
            case 8 -> same("pass", around(1, 99));
            case 9, 10, 11, 12, 13 -> same("sink", next(3), next(8), 100, 5);
            case 14 -> same("sink", around(0, 2), around(0, 7), around(50, 200), around(1, 60));
            case 15 -> same("renew", around(0, 2));
            case 16, 17 -> {
                int sample = around(0, 7);
                same("bath", sample, -1);
                same("ring", sample);
            }
            case 18, 19 -> same("sell", around(0, 5));
            case 20 -> same("set", around(0, 2), around(0, next(2) == 0 ? 20 : 100));
            case 21, 22, 23 -> orders();
            case 24 -> same("append", around(33, 126));
            case 25 -> same(next(3) == 0 ? "clearBuffer" : "firstError");
            case 26 -> same("obey");
            case 27 -> same("stopped", around(0, 1));
            case 28, 29 -> same("undo");
            case 30 -> same(next(3) == 0 ? "keep" : "restore");
            case 31 -> looks();
            case 32 -> wouldBe();
            default -> reasons();
        }
    }

    private void orders() {
        StringBuilder text = new StringBuilder();
        int parts = 1 + next(5);
        for (int part = 0; part < parts; part++) {
            text.append(part == 0 ? "" : ";").append(filled(PARTS[next(PARTS.length)]));
        }
        if (next(4) == 0) {
            text.setCharAt(next(text.length()), SIGNS.charAt(next(SIGNS.length())));
        }
        if (next(4) == 0) {
            text.setLength(1 + next(text.length()));
        }
        if (next(3) != 0) {
            same("clearBuffer");
        }
        for (int place = 0; place < text.length(); place++) {
            same("append", text.charAt(place));
            if (next(8) == 0) {
                same("firstError");
            }
        }
        same("firstError");
        same("obey");
        same("stopped", 0);
        seen.merge("stop " + same("stopped", 1), 1, Integer::sum);
    }

    private String filled(String part) {
        return part.replace("#d", "" + next(4)).replace("#s", "" + next(8)).replace("#b", "" + next(3))
                .replace("#n", "" + next(3)).replace("#w", "" + (50 + next(151))).replace("#t", "" + (1 + next(60)))
                .replace("#m", "" + (1 + next(99)));
    }

    private void looks() {
        same("drumOf", around(0, 5), around(0, 8));
        same("sampleOf", around(0, 7), around(0, 8));
        same("reading", around(0, 7), around(0, 8), around(0, 3));
        same("needle", around(0, 2), around(0, 2));
        same("bathOf", around(0, 2), around(0, 2));
        same("count", around(0, 11));
    }

    private void wouldBe() {
        same("noSink", around(0, 2), around(0, 7));
        same("noSale", around(0, 5));
        same("ifSunk", around(0, 2), around(0, 7), around(50, 200), around(1, 60));
        same("secondsTo", around(0, 2), around(0, 7), around(50, 200), around(1, 400));
        same("readyIn", around(0, 7));
        same("bestBath", around(0, 7));
        same("readShare");
    }

    private void reasons() {
        for (int drum = 0; drum < 6; drum++) {
            same("noSale", drum);
        }
        for (int sample = 0; sample < 8; sample++) {
            same("noSink", next(3), sample);
            seen.merge("none " + same("sampleOf", sample, 6), 1, Integer::sum);
        }
    }

    private String same(String name, int... arguments) {
        used++;
        String got = answer(classCalls.get(name), real, arguments);
        String due = answer(modelCalls.get(name), model, arguments);
        String call = name + Arrays.toString(arguments);
        run.append(call).append(" = ").append(due).append("; ");
        seen.merge(name + " " + due, 1, Integer::sum);
        if (agree) {
            Check.same("the last call of [" + (got.equals(due) ? call : run) + "]", got, due);
            agree = got.equals(due);
        }
        return due;
    }

    private void compareAll(String name) {
        used++;
        String got = answer(classCalls.get(name), real);
        String due = answer(modelCalls.get(name), model);
        if (agree) {
            Check.same(name + " behind [" + (got.equals(due) ? "" : run) + "]", got, due);
            agree = got.equals(due);
        }
    }

    private static String answer(Method method, Object object, int... arguments) {
        Object[] given = Arrays.stream(arguments).boxed().toArray();
        try {
            return String.valueOf(method.invoke(object, given));
        } catch (InvocationTargetException e) {
            return e.getCause().getClass().getSimpleName();
        } catch (IllegalAccessException e) {
            throw new IllegalStateException(e);
        }
    }

    private static Map<String, Method> callsOf(Class<?> told) {
        Map<String, Method> calls = new HashMap<>();
        for (Method method : told.getDeclaredMethods()) {
            if (java.lang.reflect.Modifier.isPublic(method.getModifiers())) {
                calls.put(method.getName(), method);
            }
        }
        return calls;
    }

    /** Mostly a number of the range, at times one of its ends or one beside it. */
    private int around(int least, int most) {
        switch (next(28)) {
            case 4:
                return Integer.MIN_VALUE + next(2);
            case 5:
                return Integer.MAX_VALUE - next(2);
            case 0:
                return least - 1;
            case 1:
                return most + 1;
            case 2:
                return least;
            case 3:
                return most;
            default:
                return least + next(most - least + 1);
        }
    }

    private int next(int below) {
        seed = seed * 6364136223846793005L + 1442695040888963407L;
        return (int) ((seed >>> 33) % below);
    }
}
