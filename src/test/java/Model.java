import java.util.ArrayList;
import java.util.List;
import java.util.regex.Matcher;
import java.util.regex.Pattern;

/**
 * The document told a second time, as plainly as the Java library allows and without a care for room or speed:
 * states are copied whole, orders are read by regular expressions. ModelTest compares the class with it.
 */
public final class Model {
    private static final String WEIGHT = "([5-9][0-9]|1[0-9][0-9]|200)";
    private static final String SECONDS = "([1-9]|[1-5][0-9]|60)";
    private static final String PART = "(s[0-5]|b[0-7][0-2-]|n[0-2][0-7]\\*" + WEIGHT + "/" + SECONDS
            + "|o[0-7]|\\$[0-5]|\\+[1-9][0-9]?)";
    private static final Pattern ORDERS = Pattern.compile(PART + "(;" + PART + ")*");
    private static final int NONE = -1;

    private record Reading(int needle, int depth, int weight, int seconds) {
    }

    private static final class Sample {
        int drum;
        int hardness;
        int degree = 200;
        int bath = NONE;
        int softening = NONE;
        List<Reading> readings = new ArrayList<>();

        Sample copy() {
            Sample made = new Sample();
            made.drum = drum;
            made.hardness = hardness;
            made.degree = degree;
            made.bath = bath;
            made.softening = softening;
            made.readings = new ArrayList<>(readings);
            return made;
        }

        List<Reading> latest() {
            return readings.subList(Math.max(0, readings.size() - 3), readings.size());
        }
    }

    private static final class State {
        List<int[]> drums = new ArrayList<>(); // softness, age, class
        List<Sample> samples = new ArrayList<>();
        int[][] needles = new int[3][3]; // wear, bent, readings
        int[] baths = {150, 250, 350};
        int[] settings = {5, 12, 8};
        int readings;
        int minutes;
        int renewed;
        int[] stop = {NONE, NONE};

        State copy() {
            State made = new State();
            for (int[] drum : drums) {
                made.drums.add(drum.clone());
            }
            for (Sample sample : samples) {
                made.samples.add(sample.copy());
            }
            for (int i = 0; i < 3; i++) {
                made.needles[i] = needles[i].clone();
            }
            made.baths = baths.clone();
            made.settings = settings.clone();
            made.readings = readings;
            made.minutes = minutes;
            made.renewed = renewed;
            made.stop = stop.clone();
            return made;
        }
    }

    /** A refusal with its reason, 1 to 4 and 8 to 15; the face makes the document's exception of it. */
    private static final class Refusal extends Exception {
        private static final long serialVersionUID = 1L;
        final int reason;

        Refusal(int reason) {
            this.reason = reason;
        }

        RuntimeException asThrown() {
            return reason == 13 ? new IndexOutOfBoundsException() : new IllegalStateException();
        }
    }

    private State state = new State();
    private final List<State> saved = new ArrayList<>();
    private State snapshot;
    private String buffer = "";

    private void save(State before) {
        saved.add(before);
        if (saved.size() > 6) {
            saved.remove(0);
        }
    }

    private static void index(boolean holds) {
        if (!holds) {
            throw new IndexOutOfBoundsException();
        }
    }

    private static void argument(boolean holds) {
        if (!holds) {
            throw new IllegalArgumentException();
        }
    }

    private static boolean within(int value, int least, int most) {
        return least <= value && value <= most;
    }

    private Sample at(int sample) {
        index(within(sample, 0, state.samples.size() - 1));
        return state.samples.get(sample);
    }

    private int[] drumAt(int drum) {
        index(within(drum, 0, state.drums.size() - 1));
        return state.drums.get(drum);
    }

    private static int hardness(int[] drum) {
        return 1000 / drum[0] + drum[1] / 10;
    }

    private static int minute(int degree, int around) {
        int quarter = (int) Math.floor((around - degree) / 4.0);
        return degree + (quarter == 0 && around > degree ? 1 : quarter);
    }

    private void doPass(int minutes) {
        for (int i = 0; i < minutes; i++) {
            state.minutes++;
            for (Sample sample : state.samples) {
                sample.degree = minute(sample.degree, sample.bath == NONE ? 200 : state.baths[sample.bath]);
            }
        }
    }

    private int doSample(int drum) throws Refusal {
        if (drum < 0 || drum >= state.drums.size()) {
            throw new Refusal(13);
        }
        if (state.samples.size() == 8) {
            throw new Refusal(14);
        }
        Sample made = new Sample();
        made.drum = drum;
        made.hardness = hardness(state.drums.get(drum));
        state.samples.add(made);
        return state.samples.size() - 1;
    }

    private int doBath(int sample, int bath) throws Refusal {
        if (sample < 0 || sample >= state.samples.size()) {
            throw new Refusal(13);
        }
        if (bath != NONE && !roomFor(sample, bath)) {
            throw new Refusal(14);
        }
        int before = state.samples.get(sample).bath;
        state.samples.get(sample).bath = bath;
        return before;
    }

    private boolean roomFor(int sample, int bath) {
        int others = 0;
        for (int i = 0; i < state.samples.size(); i++) {
            if (i != sample && state.samples.get(i).bath == bath) {
                others++;
            }
        }
        return others < 3;
    }

    private int deep(int needle, Sample sample, int weight, int seconds) {
        int depth = weight * seconds / (sample.hardness + 1);
        int percent = 100 + (int) Math.floor((sample.degree - 250) / 5.0);
        depth = depth * Math.max(10, percent) / 100 - state.needles[needle][0];
        return depth < 0 ? 0 : Math.min(depth, 400);
    }

    private int reasonOfSink(int needle, Sample sample) {
        if (state.needles[needle][1] == 1) {
            return 1;
        }
        if (sample.bath == NONE) {
            return 2;
        }
        if (Math.abs(state.baths[sample.bath] - sample.degree) > state.settings[0]) {
            return 3;
        }
        return sample.readings.size() >= 9 ? 4 : 0;
    }

    private int doSink(int needle, int sample, int weight, int seconds) throws Refusal {
        if (sample < 0 || sample >= state.samples.size()) {
            throw new Refusal(13);
        }
        Sample in = state.samples.get(sample);
        int reason = reasonOfSink(needle, in);
        if (reason != 0) {
            throw new Refusal(reason);
        }
        int depth = deep(needle, in, weight, seconds);
        in.readings.add(new Reading(needle, depth, weight, seconds));
        state.readings++;
        state.needles[needle][2]++;
        if (depth < 50 && state.needles[needle][0] < 20) {
            state.needles[needle][0]++;
        }
        if (depth == 0) {
            state.needles[needle][1] = 1;
        }
        return depth;
    }

    private int doRing(int sample) throws Refusal {
        if (sample < 0 || sample >= state.samples.size()) {
            throw new Refusal(13);
        }
        Sample of = state.samples.get(sample);
        if (of.bath != NONE) {
            throw new Refusal(8);
        }
        if (of.softening == NONE) {
            of.softening = Math.max(250, 300 + 12 * of.hardness - 5 * of.readings.size());
        }
        return of.softening;
    }

    private int reasonOfNone(Sample sample) {
        if (sample.readings.size() < 3) {
            return 5;
        }
        if (!sample.latest().stream().allMatch(r -> r.weight == 100 && r.seconds == 5)) {
            return 6;
        }
        int greatest = sample.latest().stream().mapToInt(Reading::depth).max().orElse(0);
        int least = sample.latest().stream().mapToInt(Reading::depth).min().orElse(0);
        return greatest - least <= state.settings[1] ? 0 : 7;
    }

    private int penetration(Sample sample) {
        return reasonOfNone(sample) != 0 ? NONE : sample.latest().stream().mapToInt(Reading::depth).sum() / 3;
    }

    private static int mask(Sample sample) {
        return sample.latest().stream().mapToInt(r -> 1 << r.needle).reduce(0, (a, b) -> a | b);
    }

    private List<Sample> samplesOf(int drum) {
        return state.samples.stream().filter(s -> s.drum == drum).toList();
    }

    private List<Sample> penetrated(int drum) {
        return samplesOf(drum).stream().filter(s -> reasonOfNone(s) == 0).toList();
    }

    private static int mean(int[] numbers) {
        int sum = 0;
        for (int number : numbers) {
            sum += number;
        }
        return numbers.length == 0 ? NONE : sum / numbers.length;
    }

    private int meanPenetration(int drum) {
        return mean(penetrated(drum).stream().mapToInt(this::penetration).toArray());
    }

    private int meanSoftening(int drum) {
        return mean(samplesOf(drum).stream().mapToInt(s -> s.softening).filter(s -> s != NONE).toArray());
    }

    private int shownIndex(int drum) {
        int penetration = meanPenetration(drum);
        int softening = meanSoftening(drum);
        if (penetration == NONE || softening == NONE) {
            return NONE;
        }
        return penetration / 10 + (int) Math.floor((softening - 450) / 10.0) - state.settings[2] + 1000;
    }

    private int reasonOfSale(int drum) {
        if (state.drums.get(drum)[2] != NONE) {
            return 15;
        }
        List<Sample> these = penetrated(drum);
        if (these.size() < 2) {
            return 9;
        }
        if (Integer.bitCount(these.stream().mapToInt(Model::mask).reduce(0, (a, b) -> a | b)) < 2) {
            return 10;
        }
        if (meanSoftening(drum) == NONE) {
            return 11;
        }
        return within(shownIndex(drum), 980, 1020) ? 0 : 12;
    }

    private int doSell(int drum) throws Refusal {
        if (drum < 0 || drum >= state.drums.size()) {
            throw new Refusal(13);
        }
        int reason = reasonOfSale(drum);
        if (reason != 0) {
            throw new Refusal(reason);
        }
        state.drums.get(drum)[2] = meanPenetration(drum) / 20;
        return state.drums.get(drum)[2];
    }

    private int readyMinutes(Sample sample, int bath) {
        int degree = sample.degree;
        for (int minutes = 0; minutes <= 200; minutes++) {
            if (Math.abs(degree - state.baths[bath]) <= state.settings[0]) {
                return minutes;
            }
            degree = minute(degree, state.baths[bath]);
        }
        return NONE;
    }

    public int drum(int softness) {
        argument(within(softness, 20, 300));
        if (state.drums.size() == 6) {
            throw new IllegalStateException();
        }
        save(state.copy());
        state.drums.add(new int[] {softness, 0, NONE});
        return state.drums.size() - 1;
    }

    public int age(int days) {
        argument(within(days, 1, 99));
        save(state.copy());
        int oldest = NONE;
        for (int[] drum : state.drums) {
            drum[1] = Math.min(999, drum[1] + days);
            oldest = Math.max(oldest, drum[1]);
        }
        return oldest;
    }

    public int sample(int drum) {
        State before = state.copy();
        try {
            int made = doSample(drum);
            save(before);
            return made;
        } catch (Refusal refusal) {
            throw refusal.asThrown();
        }
    }

    public int toss(int sample) {
        int had = at(sample).readings.size();
        save(state.copy());
        state.samples.remove(sample);
        return had;
    }

    public int bath(int sample, int bath) {
        index(within(bath, -1, 2));
        State before = state.copy();
        try {
            int was = doBath(sample, bath);
            save(before);
            return was;
        } catch (Refusal refusal) {
            throw refusal.asThrown();
        }
    }

    public int warm(int bath, int degree) {
        index(within(bath, 0, 2));
        argument(within(degree, 0, 900));
        save(state.copy());
        int was = state.baths[bath];
        state.baths[bath] = degree;
        return was;
    }

    public int pass(int minutes) {
        argument(within(minutes, 1, 99));
        save(state.copy());
        doPass(minutes);
        return (int) state.samples.stream()
                .filter(s -> s.bath != NONE && s.degree == state.baths[s.bath]).count();
    }

    public int sink(int needle, int sample, int weight, int seconds) {
        index(within(needle, 0, 2));
        at(sample);
        argument(within(weight, 50, 200) && within(seconds, 1, 60));
        State before = state.copy();
        try {
            int depth = doSink(needle, sample, weight, seconds);
            save(before);
            return depth;
        } catch (Refusal refusal) {
            throw refusal.asThrown();
        }
    }

    public int renew(int needle) {
        index(within(needle, 0, 2));
        save(state.copy());
        int wear = state.needles[needle][0];
        state.needles[needle][0] = 0;
        state.needles[needle][1] = 0;
        state.renewed++;
        return wear;
    }

    public int ring(int sample) {
        State before = state.copy();
        try {
            int softening = doRing(sample);
            save(before);
            return softening;
        } catch (Refusal refusal) {
            throw refusal.asThrown();
        }
    }

    public int sell(int drum) {
        State before = state.copy();
        try {
            int grade = doSell(drum);
            save(before);
            return grade;
        } catch (Refusal refusal) {
            throw refusal.asThrown();
        }
    }

    public int set(int setting, int value) {
        index(within(setting, 0, 2));
        argument(within(value, 0, setting == 0 ? 50 : setting == 1 ? 100 : 60));
        save(state.copy());
        int was = state.settings[setting];
        state.settings[setting] = value;
        return was;
    }

    public int append(int code) {
        argument(within(code, 33, 126));
        if (buffer.length() == 60) {
            throw new IllegalStateException();
        }
        buffer += (char) code;
        return buffer.length();
    }

    public int clearBuffer() {
        int had = buffer.length();
        buffer = "";
        return had;
    }

    public int firstError() {
        for (int length = 1; length <= buffer.length(); length++) {
            Matcher matcher = ORDERS.matcher(buffer.substring(0, length));
            if (!matcher.matches() && !matcher.hitEnd()) {
                return length - 1;
            }
        }
        return buffer.length();
    }

    public int obey() {
        argument(ORDERS.matcher(buffer).matches());
        save(state.copy());
        int done = 0;
        int[] stop = {NONE, NONE};
        for (String part : buffer.split(";")) {
            try {
                doPart(part);
                done++;
            } catch (Refusal refusal) {
                stop = new int[] {done, refusal.reason};
                break;
            }
        }
        state.stop = stop;
        buffer = "";
        return done;
    }

    private void doPart(String part) throws Refusal {
        String rest = part.substring(1);
        switch (part.charAt(0)) {
            case 's' -> doSample(Integer.parseInt(rest));
            case 'b' -> doBath(rest.charAt(0) - '0', rest.charAt(1) == '-' ? NONE : rest.charAt(1) - '0');
            case 'n' -> {
                String[] load = rest.substring(3).split("/");
                doSink(rest.charAt(0) - '0', rest.charAt(1) - '0',
                        Integer.parseInt(load[0]), Integer.parseInt(load[1]));
            }
            case 'o' -> doRing(Integer.parseInt(rest));
            case '$' -> doSell(Integer.parseInt(rest));
            default -> doPass(Integer.parseInt(rest));
        }
    }

    public int stopped(int what) {
        argument(within(what, 0, 1));
        return state.stop[what];
    }

    public int undo() {
        if (saved.isEmpty()) {
            throw new IllegalStateException();
        }
        state = saved.remove(saved.size() - 1);
        return saved.size();
    }

    public int keep() {
        snapshot = state.copy();
        return state.samples.size();
    }

    public int restore() {
        if (snapshot == null) {
            throw new IllegalStateException();
        }
        save(state.copy());
        state = snapshot.copy();
        return state.samples.size();
    }

    public int drumOf(int drum, int what) {
        int[] of = drumAt(drum);
        argument(within(what, 0, 8));
        return switch (what) {
            case 0 -> of[0];
            case 1 -> of[1];
            case 2 -> hardness(of);
            case 3 -> samplesOf(drum).size();
            case 4 -> meanPenetration(drum);
            case 5 -> meanSoftening(drum);
            case 6, 7 -> shownIndex(drum);
            default -> of[2];
        };
    }

    public int sampleOf(int sample, int what) {
        Sample of = at(sample);
        argument(within(what, 0, 8));
        return switch (what) {
            case 0 -> of.drum;
            case 1 -> of.hardness;
            case 2 -> of.degree;
            case 3 -> of.bath;
            case 4 -> of.readings.size();
            case 5 -> penetration(of);
            case 6 -> reasonOfNone(of);
            case 7 -> of.softening;
            default -> mask(of);
        };
    }

    public int reading(int sample, int reading, int what) {
        Sample of = at(sample);
        argument(reading >= 0 && within(what, 0, 3));
        if (reading >= of.readings.size()) {
            return NONE;
        }
        Reading one = of.readings.get(reading);
        return new int[] {one.needle, one.depth, one.weight, one.seconds}[what];
    }

    public int needle(int needle, int what) {
        index(within(needle, 0, 2));
        argument(within(what, 0, 2));
        return state.needles[needle][what];
    }

    public int bathOf(int bath, int what) {
        index(within(bath, 0, 2));
        argument(within(what, 0, 2));
        List<Sample> in = state.samples.stream().filter(s -> s.bath == bath).toList();
        return switch (what) {
            case 0 -> state.baths[bath];
            case 1 -> in.size();
            default -> in.stream().mapToInt(s -> Math.abs(s.degree - state.baths[bath])).max().orElse(NONE);
        };
    }

    public int count(int what) {
        argument(within(what, 0, 11));
        return switch (what) {
            case 0 -> state.drums.size();
            case 1 -> state.samples.size();
            case 2 -> state.readings;
            case 3 -> state.needles[0][1] + state.needles[1][1] + state.needles[2][1];
            case 4 -> (int) state.drums.stream().filter(d -> d[2] != NONE).count();
            case 5 -> state.minutes;
            case 6 -> (int) state.samples.stream().filter(s -> reasonOfNone(s) == 0).count();
            case 7 -> state.renewed;
            case 11 -> saved.size();
            default -> state.settings[what - 8];
        };
    }

    public int noSink(int needle, int sample) {
        index(within(needle, 0, 2));
        return reasonOfSink(needle, at(sample));
    }

    public int noSale(int drum) {
        drumAt(drum);
        return reasonOfSale(drum);
    }

    public int ifSunk(int needle, int sample, int weight, int seconds) {
        index(within(needle, 0, 2));
        Sample in = at(sample);
        argument(within(weight, 50, 200) && within(seconds, 1, 60));
        return deep(needle, in, weight, seconds);
    }

    public int secondsTo(int needle, int sample, int weight, int depth) {
        index(within(needle, 0, 2));
        Sample in = at(sample);
        argument(within(weight, 50, 200) && within(depth, 1, 400));
        int seconds = 60;
        if (deep(needle, in, weight, seconds) < depth) {
            return NONE;
        }
        while (seconds > 1 && deep(needle, in, weight, seconds - 1) >= depth) {
            seconds--;
        }
        return seconds;
    }

    public int readyIn(int sample) {
        Sample of = at(sample);
        return of.bath == NONE ? NONE : readyMinutes(of, of.bath);
    }

    public int bestBath(int sample) {
        Sample of = at(sample);
        int best = NONE;
        for (int bath = 2; bath >= 0; bath--) {
            int minutes = roomFor(sample, bath) ? readyMinutes(of, bath) : NONE;
            if (minutes != NONE && (best == NONE || minutes <= readyMinutes(of, best))) {
                best = bath;
            }
        }
        return best;
    }

    public double readShare() {
        return state.samples.isEmpty() ? 1.0 : (double) count(6) / state.samples.size();
    }

    public long digest() {
        List<Long> values = new ArrayList<>();
        for (int what = 0; what <= 11; what++) {
            values.add((long) count(what));
        }
        for (int drum = 0; drum < state.drums.size(); drum++) {
            for (int what = 0; what <= 8; what++) {
                values.add((long) drumOf(drum, what));
            }
            values.add((long) noSale(drum));
        }
        for (int sample = 0; sample < state.samples.size(); sample++) {
            for (int what = 0; what <= 8; what++) {
                values.add((long) sampleOf(sample, what));
            }
            for (int reading = 0; reading < state.samples.get(sample).readings.size(); reading++) {
                for (int what = 0; what <= 3; what++) {
                    values.add((long) reading(sample, reading, what));
                }
            }
            values.add((long) readyIn(sample));
            values.add((long) bestBath(sample));
            for (int needle = 0; needle < 3; needle++) {
                values.add((long) noSink(needle, sample));
            }
        }
        for (int needle = 0; needle < 3; needle++) {
            for (int what = 0; what <= 2; what++) {
                values.add((long) needle(needle, what));
            }
        }
        for (int bath = 0; bath < 3; bath++) {
            for (int what = 0; what <= 2; what++) {
                values.add((long) bathOf(bath, what));
            }
        }
        values.add((long) stopped(0));
        values.add((long) stopped(1));
        values.add(Double.doubleToLongBits(readShare()));
        values.add((long) buffer.length());
        for (char sign : buffer.toCharArray()) {
            values.add((long) sign);
        }
        long hash = 3767;
        for (long value : values) {
            hash = 31 * hash + value;
        }
        return hash;
    }
}
