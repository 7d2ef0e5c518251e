import java.util.ArrayList;
import java.util.HashMap;
import java.util.List;
import java.util.Map;

/**
 * The cases of EdgesTest. A case begins with says(), which names a promise's number and the sentence, or the part of
 * a sentence, that the case looks at; the answers compared behind it are about that sentence.
 */
final class Edge {
    private static final Document DOCUMENT = Document.read();
    private static final Map<Integer, List<String>> NAMED = new HashMap<>();
    private static String current = "";
    private static int askedBefore = 0;
    private static int cases = 0;

    private Edge() {
    }

    /** Begins a case. */
    static void says(int promise, String words) {
        endCase();
        name(promise, words);
        cases++;
        current = "promise " + promise + ", \"" + words + "\"";
        Check.about(current + ": ");
        askedBefore = Check.asked();
    }

    /** Words that name nothing which a call could answer otherwise. */
    static void namesNoEdge(int promise, String words) {
        endCase();
        name(promise, words);
    }

    private static void name(int promise, String words) {
        long found = DOCUMENT.sentencesOf(promise).stream().filter(sentence -> sentence.contains(words)).count();
        Check.equal("sentences of promise " + promise + " with the words \"" + words + "\"", found, 1);
        NAMED.computeIfAbsent(promise, number -> new ArrayList<>()).add(words);
    }

    private static void endCase() {
        Check.about("");
        Check.that("the case compares an answer: " + current, current.isEmpty() || Check.asked() > askedBefore);
        current = "";
    }

    /** Looks whether each word of the document stands in a case, and tells those that do not. */
    static void allNamed() {
        endCase();
        for (int promise : DOCUMENT.promises()) {
            for (String sentence : DOCUMENT.sentencesOf(promise)) {
                Check.same("words of promise " + promise + " that no case names", unnamed(promise, sentence), "");
            }
        }
        System.out.println(cases + " sentences looked at, or parts of them");
    }

    private static String unnamed(int promise, String sentence) {
        boolean[] named = new boolean[sentence.length()];
        for (String words : NAMED.getOrDefault(promise, List.of())) {
            int from = sentence.indexOf(words);
            for (int place = from; from >= 0 && place < from + words.length(); place++) {
                named[place] = true;
            }
        }
        StringBuilder left = new StringBuilder();
        for (int place = 0; place < sentence.length(); place++) {
            char sign = sentence.charAt(place);
            boolean counts = !named[place] && (Character.isLetterOrDigit(sign) || sign == ' ');
            left.append(counts ? sign : "");
        }
        return left.toString().trim();
    }

    static void is(String call, long got, long due) {
        Check.equal(call, got, due);
    }

    static void noIndex(BitumenNeedle x, String call, Check.Call ask) {
        long before = x.digest();
        Check.noIndex(call, ask);
        is("the digest behind the refused " + call, x.digest(), before);
    }

    static void noArgument(BitumenNeedle x, String call, Check.Call ask) {
        long before = x.digest();
        Check.noArgument(call, ask);
        is("the digest behind the refused " + call, x.digest(), before);
    }

    static void noState(BitumenNeedle x, String call, Check.Call ask) {
        long before = x.digest();
        Check.noState(call, ask);
        is("the digest behind the refused " + call, x.digest(), before);
    }

    /** The call saves one state, and undo brings back what was before it; at most 5 states may be saved before. */
    static void undoable(BitumenNeedle x, String call, Check.Call ask) {
        long before = x.digest();
        int saved = x.count(11);
        ask.ask();
        is("states saved behind " + call, x.count(11), saved + 1);
        is("states left by undo behind " + call, x.undo(), saved);
        is("the digest behind undo of " + call, x.digest(), before);
    }

    /** Drums of these softnesses. */
    static BitumenNeedle drums(int... softness) {
        BitumenNeedle x = new BitumenNeedle();
        for (int each : softness) {
            x.drum(each);
        }
        return x;
    }

    /** A drum and so many samples of it, in no bath. */
    static BitumenNeedle samples(int softness, int samples) {
        BitumenNeedle x = drums(softness);
        for (int sample = 0; sample < samples; sample++) {
            x.sample(0);
        }
        return x;
    }

    /** A drum and so many samples of it, at 250 in baths of 250. */
    static BitumenNeedle warmed(int softness, int samples) {
        return NeedlesTest.warmed(softness, samples);
    }

    /** A drum with two samples that are read three times, the first with needle 0, the second with needle 1. */
    static BitumenNeedle readTwice(int softness) {
        BitumenNeedle x = warmed(softness, 2);
        sink(x, 3, 0, 0);
        sink(x, 3, 1, 1);
        return x;
    }

    /** The same, and the ring of the first sample, which lies in no bath any more. */
    static BitumenNeedle sellable(int softness) {
        BitumenNeedle x = readTwice(softness);
        x.bath(0, -1);
        x.ring(0);
        return x;
    }

    /** Needle and sample, so many times, with 100 grams and 5 seconds. */
    static void sink(BitumenNeedle x, int times, int needle, int sample) {
        for (int time = 0; time < times; time++) {
            x.sink(needle, sample, 100, 5);
        }
    }

    /** The same state with one saved state alone. */
    static BitumenNeedle oneSaved(BitumenNeedle x) {
        x.keep();
        while (x.count(11) > 0) {
            x.undo();
        }
        x.restore();
        return x;
    }

    static BitumenNeedle type(BitumenNeedle x, String text) {
        return TextsTest.type(x, text);
    }
}
