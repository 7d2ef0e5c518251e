/**
 * A laboratory in which needles sink into samples of bitumen, rings soften and drums are sold.
 * What each call promises is told in ../shared/DOC.md.
 */
public final class BitumenNeedle {
    /** There is nothing to return. */
    public static final int NONE = -1;

    private static final int MOST_DRUMS = 6;
    private static final int MOST_SAMPLES = 8;
    private static final int MOST_READINGS = 9;
    private static final int BATHS = 3;
    private static final int BATH_ROOM = 3;
    private static final int NEEDLES = 3;
    private static final int SETTINGS = 3;
    private static final int MOST_SAVED = 6;
    private static final int MOST_CHARACTERS = 60;

    private static final int LEAST_SOFTNESS = 20;
    private static final int MOST_SOFTNESS = 300;
    private static final int MOST_AGE = 999;
    private static final int MOST_AT_ONCE = 99;
    private static final int MOST_DEGREE = 900;
    private static final int ROOM_DEGREE = 200;
    private static final int LEAST_WEIGHT = 50;
    private static final int MOST_WEIGHT = 200;
    private static final int MOST_SECONDS = 60;
    private static final int MOST_DEPTH = 400;
    private static final int MOST_WEAR = 20;
    private static final int WEARING_DEPTH = 50;
    private static final int LATEST = 3;
    private static final int LONGEST_WAIT = 200;

    private static final int[] FIRST_DEGREES = {150, 250, 350};
    private static final int[] FIRST_SETTINGS = {5, 12, 8};
    private static final int[] MOST_OF_SETTING = {50, 100, 60};

    // The settings, by what they say.
    private static final int NEAR = 0;
    private static final int APART = 1;
    private static final int INDEX_LESS = 2;

    // What is written down of a reading.
    private static final int MARKS = 4;
    private static final int NEEDLE_MARK = 0;
    private static final int DEPTH_MARK = 1;
    private static final int WEIGHT_MARK = 2;
    private static final int SECONDS_MARK = 3;

    // What lies behind a refusal; ALLOWED if there is none.
    private static final int ALLOWED = 0;
    private static final int BENT = 1;
    private static final int IN_NO_BATH = 2;
    private static final int NOT_NEAR = 3;
    private static final int READ_ENOUGH = 4;
    private static final int FEW_READINGS = 5;
    private static final int OTHER_LOAD = 6;
    private static final int LIE_APART = 7;
    private static final int IN_A_BATH = 8;
    private static final int FEW_PENETRATIONS = 9;
    private static final int FEW_NEEDLES = 10;
    private static final int NO_SOFTENING = 11;
    private static final int INDEX_OUT = 12;
    private static final int NOT_THERE = 13;
    private static final int NO_ROOM = 14;
    private static final int SOLD = 15;

    private static final int DRUM_NUMBERS = 9;
    private static final int SAMPLE_NUMBERS = 9;
    private static final int NEEDLE_NUMBERS = 3;
    private static final int BATH_NUMBERS = 3;
    private static final int COUNTS = 12;
    private static final int SAVED_COUNT = 11;
    private static final int SHOWN_INDEX_MORE = 1000;

    private final Lab lab = new Lab();
    private final History history = new History();
    private final OrderText text = new OrderText();

    public BitumenNeedle() {
    }

    // ---- drums, samples, baths

    public int drum(int softness) throws IllegalArgumentException, IllegalStateException {
        mindRange(softness, LEAST_SOFTNESS, MOST_SOFTNESS);
        refuseFor(lab.drumCount < MOST_DRUMS ? ALLOWED : NO_ROOM);
        history.save(lab);
        return lab.addDrum(softness);
    }

    public int age(int days) throws IllegalArgumentException {
        mindRange(days, 1, MOST_AT_ONCE);
        history.save(lab);
        return lab.ageDrums(days);
    }

    public int sample(int drum) throws IndexOutOfBoundsException, IllegalStateException {
        refuseFor(lab.whyNotTaken(drum));
        history.save(lab);
        return lab.take(drum);
    }

    public int toss(int sample) throws IndexOutOfBoundsException {
        mindNumber(sample, lab.sampleCount);
        history.save(lab);
        return lab.throwAway(sample);
    }

    public int bath(int sample, int bath) throws IndexOutOfBoundsException, IllegalStateException {
        if (bath != NONE) {
            mindNumber(bath, BATHS);
        }
        refuseFor(lab.whyNotLaid(sample, bath));
        history.save(lab);
        return lab.lay(sample, bath);
    }

    public int warm(int bath, int degree) throws IndexOutOfBoundsException, IllegalArgumentException {
        mindNumber(bath, BATHS);
        mindRange(degree, 0, MOST_DEGREE);
        history.save(lab);
        int previous = lab.degrees[bath];
        lab.degrees[bath] = degree;
        return previous;
    }

    public int pass(int minutes) throws IllegalArgumentException {
        mindRange(minutes, 1, MOST_AT_ONCE);
        history.save(lab);
        lab.passMinutes(minutes);
        return lab.samplesAsTheirBath();
    }

    // ---- needles, rings, selling

    public int sink(int needle, int sample, int weight, int seconds)
            throws IndexOutOfBoundsException, IllegalArgumentException, IllegalStateException {
        mindNumber(needle, NEEDLES);
        mindNumber(sample, lab.sampleCount);
        mindRange(weight, LEAST_WEIGHT, MOST_WEIGHT);
        mindRange(seconds, 1, MOST_SECONDS);
        refuseFor(lab.whyNotSunk(needle, sample));
        history.save(lab);
        return lab.read(needle, sample, weight, seconds);
    }

    public int renew(int needle) throws IndexOutOfBoundsException {
        mindNumber(needle, NEEDLES);
        history.save(lab);
        lab.renewed++;
        return lab.needles[needle].makeNew();
    }

    public int ring(int sample) throws IndexOutOfBoundsException, IllegalStateException {
        refuseFor(lab.whyNotSoftened(sample));
        history.save(lab);
        return lab.samples[sample].soften();
    }

    public int sell(int drum) throws IndexOutOfBoundsException, IllegalStateException {
        refuseFor(Trade.whyNotSold(lab, drum));
        history.save(lab);
        return Trade.close(lab, drum);
    }

    public int set(int setting, int value) throws IndexOutOfBoundsException, IllegalArgumentException {
        mindNumber(setting, SETTINGS);
        mindRange(value, 0, MOST_OF_SETTING[setting]);
        history.save(lab);
        int previous = lab.settings[setting];
        lab.settings[setting] = value;
        return previous;
    }

    // ---- texts

    public int append(int code) throws IllegalArgumentException, IllegalStateException {
        mindRange(code, 33, 126);
        refuseFor(text.length < MOST_CHARACTERS ? ALLOWED : NO_ROOM);
        return text.add((char) code);
    }

    public int clearBuffer() {
        return text.empty();
    }

    public int firstError() {
        return text.errorPlace();
    }

    public int obey() throws IllegalArgumentException {
        if (!text.isComplete()) {
            throw new IllegalArgumentException("the buffer is not complete orders");
        }
        history.save(lab);
        int done = 0;
        int reason = ALLOWED;
        for (int part = 0; part < MOST_CHARACTERS && reason == ALLOWED && text.nextPart(); part++) {
            reason = doPart(text.part);
            if (reason == ALLOWED) {
                done++;
            }
        }
        lab.stopPart = reason == ALLOWED ? NONE : done;
        lab.stopReason = reason == ALLOWED ? NONE : reason;
        text.empty();
        return done;
    }

    public int stopped(int what) throws IllegalArgumentException {
        mindRange(what, 0, 1);
        return what == 0 ? lab.stopPart : lab.stopReason;
    }

    // ---- undo, the snapshot

    public int undo() throws IllegalStateException {
        if (history.count == 0) {
            throw new IllegalStateException("no state is saved");
        }
        history.goBack(lab);
        return history.count;
    }

    public int keep() {
        history.snapshot.copyFrom(lab);
        history.kept = true;
        return lab.sampleCount;
    }

    public int restore() throws IllegalStateException {
        if (!history.kept) {
            throw new IllegalStateException("there is no snapshot");
        }
        history.save(lab);
        lab.copyFrom(history.snapshot);
        return lab.sampleCount;
    }

    // ---- looks; nothing is changed

    public int drumOf(int drum, int what) throws IndexOutOfBoundsException, IllegalArgumentException {
        mindNumber(drum, lab.drumCount);
        mindRange(what, 0, DRUM_NUMBERS - 1);
        return Trade.number(lab, drum, what);
    }

    public int sampleOf(int sample, int what) throws IndexOutOfBoundsException, IllegalArgumentException {
        mindNumber(sample, lab.sampleCount);
        mindRange(what, 0, SAMPLE_NUMBERS - 1);
        return lab.samples[sample].number(what, lab.settings[APART]);
    }

    public int reading(int sample, int reading, int what)
            throws IndexOutOfBoundsException, IllegalArgumentException {
        mindNumber(sample, lab.sampleCount);
        mindRange(what, 0, MARKS - 1);
        if (reading < 0) {
            throw new IllegalArgumentException("a reading has a place from 0");
        }
        return lab.samples[sample].mark(reading, what);
    }

    public int needle(int needle, int what) throws IndexOutOfBoundsException, IllegalArgumentException {
        mindNumber(needle, NEEDLES);
        mindRange(what, 0, NEEDLE_NUMBERS - 1);
        return lab.needles[needle].number(what);
    }

    public int bathOf(int bath, int what) throws IndexOutOfBoundsException, IllegalArgumentException {
        mindNumber(bath, BATHS);
        mindRange(what, 0, BATH_NUMBERS - 1);
        return lab.bathNumber(bath, what);
    }

    public int count(int what) throws IllegalArgumentException {
        mindRange(what, 0, COUNTS - 1);
        return what == SAVED_COUNT ? history.count : lab.total(what);
    }

    // ---- what would be; nothing is changed

    public int noSink(int needle, int sample) throws IndexOutOfBoundsException {
        mindNumber(needle, NEEDLES);
        mindNumber(sample, lab.sampleCount);
        return lab.whyNotSunk(needle, sample);
    }

    public int noSale(int drum) throws IndexOutOfBoundsException {
        mindNumber(drum, lab.drumCount);
        return Trade.whyNotSold(lab, drum);
    }

    public int ifSunk(int needle, int sample, int weight, int seconds)
            throws IndexOutOfBoundsException, IllegalArgumentException {
        mindNumber(needle, NEEDLES);
        mindNumber(sample, lab.sampleCount);
        mindRange(weight, LEAST_WEIGHT, MOST_WEIGHT);
        mindRange(seconds, 1, MOST_SECONDS);
        return lab.depth(needle, sample, weight, seconds);
    }

    public int secondsTo(int needle, int sample, int weight, int depth)
            throws IndexOutOfBoundsException, IllegalArgumentException {
        mindNumber(needle, NEEDLES);
        mindNumber(sample, lab.sampleCount);
        mindRange(weight, LEAST_WEIGHT, MOST_WEIGHT);
        mindRange(depth, 1, MOST_DEPTH);
        for (int seconds = 1; seconds <= MOST_SECONDS; seconds++) {
            if (lab.depth(needle, sample, weight, seconds) >= depth) {
                return seconds;
            }
        }
        return NONE;
    }

    public int readyIn(int sample) throws IndexOutOfBoundsException {
        mindNumber(sample, lab.sampleCount);
        return lab.minutesToReady(sample);
    }

    public int bestBath(int sample) throws IndexOutOfBoundsException {
        mindNumber(sample, lab.sampleCount);
        return lab.quickestBath(sample);
    }

    public double readShare() {
        if (lab.sampleCount <= 0) {
            return 1.0;
        }
        return (double) lab.samplesWithPenetration() / (double) lab.sampleCount;
    }

    public long digest() {
        long hash = 3767L;
        for (int what = 0; what < COUNTS; what++) {
            hash = mixed(hash, what == SAVED_COUNT ? history.count : lab.total(what));
        }
        for (int drum = 0; drum < lab.drumCount; drum++) {
            for (int what = 0; what < DRUM_NUMBERS; what++) {
                hash = mixed(hash, Trade.number(lab, drum, what));
            }
            hash = mixed(hash, Trade.whyNotSold(lab, drum));
        }
        for (int sample = 0; sample < lab.sampleCount; sample++) {
            hash = mixedWithSample(hash, sample);
        }
        hash = mixedWithTools(hash);
        hash = mixed(hash, lab.stopPart);
        hash = mixed(hash, lab.stopReason);
        hash = mixed(hash, bitsOf(readShare()));
        hash = mixed(hash, text.length);
        for (int place = 0; place < text.length; place++) {
            hash = mixed(hash, text.characters[place]);
        }
        return hash;
    }

    // ---- behind the face

    private static void mindNumber(int number, int howMany) {
        if (number < 0 || number >= howMany) {
            throw new IndexOutOfBoundsException("there is no such number");
        }
    }

    private static void mindRange(int value, int least, int most) {
        if (value < least || value > most) {
            throw new IllegalArgumentException("a value is out of range");
        }
    }

    private static void refuseFor(int reason) {
        if (reason == NOT_THERE) {
            throw new IndexOutOfBoundsException("there is no such drum or sample");
        }
        if (reason != ALLOWED) {
            throw new IllegalStateException("it is refused");
        }
    }

    /** Does one part of the orders, or nothing if it is refused; returns the reason. */
    private int doPart(Part part) {
        int first = part.values[0];
        int second = part.values[1];
        int reason = whyNotDone(part.letter, first, second);
        if (reason != ALLOWED) {
            return reason;
        }
        switch (part.letter) {
            case 's':
                lab.take(first);
                break;
            case 'b':
                lab.lay(first, second);
                break;
            case 'n':
                lab.read(first, second, part.values[Part.WEIGHT_SLOT], part.values[Part.SECONDS_SLOT]);
                break;
            case 'o':
                lab.samples[first].soften();
                break;
            case '$':
                Trade.close(lab, first);
                break;
            default:
                lab.passMinutes(first);
                break;
        }
        return ALLOWED;
    }

    private int whyNotDone(int letter, int first, int second) {
        switch (letter) {
            case 's':
                return lab.whyNotTaken(first);
            case 'b':
                return lab.whyNotLaid(first, second);
            case 'n':
                return lab.hasSample(second) ? lab.whyNotSunk(first, second) : NOT_THERE;
            case 'o':
                return lab.whyNotSoftened(first);
            case '$':
                return Trade.whyNotSold(lab, first);
            default:
                return ALLOWED;
        }
    }

    private long mixedWithSample(long before, int sample) {
        Specimen specimen = lab.samples[sample];
        long hash = before;
        for (int what = 0; what < SAMPLE_NUMBERS; what++) {
            hash = mixed(hash, specimen.number(what, lab.settings[APART]));
        }
        for (int reading = 0; reading < specimen.readings; reading++) {
            for (int what = 0; what < MARKS; what++) {
                hash = mixed(hash, specimen.mark(reading, what));
            }
        }
        hash = mixed(hash, lab.minutesToReady(sample));
        hash = mixed(hash, lab.quickestBath(sample));
        for (int needle = 0; needle < NEEDLES; needle++) {
            hash = mixed(hash, lab.whyNotSunk(needle, sample));
        }
        return hash;
    }

    private long mixedWithTools(long before) {
        long hash = before;
        for (int needle = 0; needle < NEEDLES; needle++) {
            for (int what = 0; what < NEEDLE_NUMBERS; what++) {
                hash = mixed(hash, lab.needles[needle].number(what));
            }
        }
        for (int bath = 0; bath < BATHS; bath++) {
            for (int what = 0; what < BATH_NUMBERS; what++) {
                hash = mixed(hash, lab.bathNumber(bath, what));
            }
        }
        return hash;
    }

    private static long mixed(long hash, long value) {
        return 31L * hash + value;
    }

    /** The bits of a share from 0 to 1; made by hand, as LANGUAGE.md lists no library call for them. */
    private static long bitsOf(double share) {
        if (share <= 0.0) {
            return 0L;
        }
        double mantissa = share;
        long exponent = 1023L;
        for (int step = 0; step < 64 && mantissa < 1.0; step++) {
            mantissa = mantissa * 2.0;
            exponent--;
        }
        return (exponent << 52) + (long) ((mantissa - 1.0) * 4503599627370496.0);
    }

    /** A number divided by one above 0, rounded down; 0 if the divisor is not above 0. */
    private static int divided(int number, int by) {
        return by > 0 ? Math.floorDiv(number, by) : 0;
    }

    /** What a degree becomes in a minute with that degree around it. */
    private static int degreeNext(int degree, int around) {
        int more = Math.floorDiv(around - degree, 4);
        if (more == 0 && around > degree) {
            more = 1;
        }
        return degree + more;
    }

    /** A drum that has come. */
    private static final class Drum {
        int softness;
        int days;
        int grade = NONE;

        void fill(int withSoftness) {
            softness = withSoftness;
            days = 0;
            grade = NONE;
        }

        void copyFrom(Drum other) {
            softness = other.softness;
            days = other.days;
            grade = other.grade;
        }

        int hardness() {
            return divided(1000, softness) + Math.floorDiv(days, 10);
        }
    }

    /** A needle with all readings that were made with it and with those before it. */
    private static final class Needle {
        int wear;
        boolean bent;
        int readings;

        void copyFrom(Needle other) {
            wear = other.wear;
            bent = other.bent;
            readings = other.readings;
        }

        /** Returns the wear that the old one had. */
        int makeNew() {
            int old = wear;
            wear = 0;
            bent = false;
            return old;
        }

        void wearBy(int depth) {
            readings++;
            if (depth < WEARING_DEPTH) {
                wear = Math.min(MOST_WEAR, wear + 1);
            }
            if (depth == 0) {
                bent = true;
            }
        }

        int number(int what) {
            switch (what) {
                case 0:
                    return wear;
                case 1:
                    return bent ? 1 : 0;
                default:
                    return readings;
            }
        }
    }

    /** A sample with its readings. */
    private static final class Specimen {
        int drum;
        int hardness;
        int degree;
        int bath = NONE;
        int softening = NONE;
        int readings;
        final int[] marks = new int[MOST_READINGS * MARKS];

        void begin(int ofDrum, int withHardness) {
            drum = ofDrum;
            hardness = withHardness;
            degree = ROOM_DEGREE;
            bath = NONE;
            softening = NONE;
            readings = 0;
        }

        void copyFrom(Specimen other) {
            drum = other.drum;
            hardness = other.hardness;
            degree = other.degree;
            bath = other.bath;
            softening = other.softening;
            readings = other.readings;
            System.arraycopy(other.marks, 0, marks, 0, marks.length);
        }

        int mark(int reading, int what) {
            return reading >= 0 && reading < readings ? marks[reading * MARKS + what] : NONE;
        }

        void write(int needle, int depth, int weight, int seconds) {
            if (readings >= MOST_READINGS) {
                return;
            }
            int at = readings * MARKS;
            marks[at + NEEDLE_MARK] = needle;
            marks[at + DEPTH_MARK] = depth;
            marks[at + WEIGHT_MARK] = weight;
            marks[at + SECONDS_MARK] = seconds;
            readings++;
        }

        int depthUnder(int weight, int seconds, int wear) {
            int cold = divided(weight * seconds, hardness + 1);
            int percent = Math.max(10, 100 + Math.floorDiv(degree - 250, 5));
            int depth = Math.floorDiv(cold * percent, 100) - wear;
            return Math.min(MOST_DEPTH, Math.max(0, depth));
        }

        int whyNoPenetration(int apart) {
            if (readings < LATEST) {
                return FEW_READINGS;
            }
            int least = MOST_DEPTH;
            int greatest = 0;
            for (int reading = readings - LATEST; reading < readings; reading++) {
                int at = reading * MARKS;
                if (marks[at + WEIGHT_MARK] != 100 || marks[at + SECONDS_MARK] != 5) {
                    return OTHER_LOAD;
                }
                least = Math.min(least, marks[at + DEPTH_MARK]);
                greatest = Math.max(greatest, marks[at + DEPTH_MARK]);
            }
            return greatest - least > apart ? LIE_APART : ALLOWED;
        }

        int penetration(int apart) {
            if (whyNoPenetration(apart) != ALLOWED) {
                return NONE;
            }
            int sum = 0;
            for (int reading = readings - LATEST; reading < readings; reading++) {
                sum += mark(reading, DEPTH_MARK);
            }
            return Math.floorDiv(sum, LATEST);
        }

        int latestNeedles() {
            int mask = 0;
            for (int reading = Math.max(0, readings - LATEST); reading < readings; reading++) {
                mask |= 1 << mark(reading, NEEDLE_MARK);
            }
            return mask;
        }

        /** The softening, which is kept as it was asked first. */
        int soften() {
            if (softening == NONE) {
                softening = Math.max(250, 300 + 12 * hardness - 5 * readings);
            }
            return softening;
        }

        int number(int what, int apart) {
            switch (what) {
                case 0:
                    return drum;
                case 1:
                    return hardness;
                case 2:
                    return degree;
                case 3:
                    return bath;
                case 4:
                    return readings;
                case 5:
                    return penetration(apart);
                case 6:
                    return whyNoPenetration(apart);
                case 7:
                    return softening;
                default:
                    return latestNeedles();
            }
        }
    }

    /** The whole state that undo and the snapshot bring back. */
    private static final class Lab {
        final Drum[] drums = new Drum[MOST_DRUMS];
        final Specimen[] samples = new Specimen[MOST_SAMPLES];
        final Needle[] needles = new Needle[NEEDLES];
        final int[] degrees = FIRST_DEGREES.clone();
        final int[] settings = FIRST_SETTINGS.clone();
        int drumCount;
        int sampleCount;
        int minutes;
        int renewed;
        int stopPart = NONE;
        int stopReason = NONE;

        Lab() {
            for (int drum = 0; drum < MOST_DRUMS; drum++) {
                drums[drum] = new Drum();
            }
            for (int sample = 0; sample < MOST_SAMPLES; sample++) {
                samples[sample] = new Specimen();
            }
            for (int needle = 0; needle < NEEDLES; needle++) {
                needles[needle] = new Needle();
            }
        }

        void copyFrom(Lab other) {
            for (int drum = 0; drum < other.drumCount; drum++) {
                drums[drum].copyFrom(other.drums[drum]);
            }
            for (int sample = 0; sample < other.sampleCount; sample++) {
                samples[sample].copyFrom(other.samples[sample]);
            }
            for (int needle = 0; needle < NEEDLES; needle++) {
                needles[needle].copyFrom(other.needles[needle]);
            }
            System.arraycopy(other.degrees, 0, degrees, 0, BATHS);
            System.arraycopy(other.settings, 0, settings, 0, SETTINGS);
            drumCount = other.drumCount;
            sampleCount = other.sampleCount;
            minutes = other.minutes;
            renewed = other.renewed;
            stopPart = other.stopPart;
            stopReason = other.stopReason;
        }

        boolean hasDrum(int drum) {
            return drum >= 0 && drum < drumCount;
        }

        boolean hasSample(int sample) {
            return sample >= 0 && sample < sampleCount;
        }

        int addDrum(int softness) {
            int drum = drumCount;
            drums[drum].fill(softness);
            drumCount++;
            return drum;
        }

        /** Returns the age of the oldest drum then. */
        int ageDrums(int days) {
            int oldest = NONE;
            for (int drum = 0; drum < drumCount; drum++) {
                drums[drum].days = Math.min(MOST_AGE, drums[drum].days + days);
                oldest = Math.max(oldest, drums[drum].days);
            }
            return oldest;
        }

        int whyNotTaken(int drum) {
            if (!hasDrum(drum)) {
                return NOT_THERE;
            }
            return sampleCount < MOST_SAMPLES ? ALLOWED : NO_ROOM;
        }

        int take(int drum) {
            int sample = sampleCount;
            samples[sample].begin(drum, drums[drum].hardness());
            sampleCount++;
            return sample;
        }

        /** Returns how many readings the sample had. */
        int throwAway(int sample) {
            Specimen gone = samples[sample];
            for (int place = sample; place < sampleCount - 1; place++) {
                samples[place] = samples[place + 1];
            }
            // The row stays in the list behind the others, so that a later sample uses it again.
            samples[sampleCount - 1] = gone;
            sampleCount--;
            return gone.readings;
        }

        int samplesIn(int bath) {
            int found = 0;
            for (int sample = 0; sample < sampleCount; sample++) {
                if (samples[sample].bath == bath) {
                    found++;
                }
            }
            return found;
        }

        boolean hasRoomFor(int sample, int bath) {
            return samples[sample].bath == bath || samplesIn(bath) < BATH_ROOM;
        }

        int whyNotLaid(int sample, int bath) {
            if (!hasSample(sample)) {
                return NOT_THERE;
            }
            return bath == NONE || hasRoomFor(sample, bath) ? ALLOWED : NO_ROOM;
        }

        /** Returns the bath in which the sample lay. */
        int lay(int sample, int bath) {
            int previous = samples[sample].bath;
            samples[sample].bath = bath;
            return previous;
        }

        int degreeAround(int bath) {
            return bath >= 0 && bath < BATHS ? degrees[bath] : ROOM_DEGREE;
        }

        void passMinutes(int howMany) {
            for (int minute = 0; minute < howMany; minute++) {
                for (int sample = 0; sample < sampleCount; sample++) {
                    Specimen specimen = samples[sample];
                    specimen.degree = degreeNext(specimen.degree, degreeAround(specimen.bath));
                }
            }
            minutes += howMany;
        }

        int samplesAsTheirBath() {
            int found = 0;
            for (int sample = 0; sample < sampleCount; sample++) {
                Specimen specimen = samples[sample];
                if (specimen.bath != NONE && specimen.degree == degreeAround(specimen.bath)) {
                    found++;
                }
            }
            return found;
        }

        int depth(int needle, int sample, int weight, int seconds) {
            return samples[sample].depthUnder(weight, seconds, needles[needle].wear);
        }

        int whyNotSunk(int needle, int sample) {
            Specimen specimen = samples[sample];
            if (needles[needle].bent) {
                return BENT;
            }
            if (specimen.bath == NONE) {
                return IN_NO_BATH;
            }
            if (Math.abs(degreeAround(specimen.bath) - specimen.degree) > settings[NEAR]) {
                return NOT_NEAR;
            }
            return specimen.readings < MOST_READINGS ? ALLOWED : READ_ENOUGH;
        }

        /** Lets a needle sink; returns the depth. */
        int read(int needle, int sample, int weight, int seconds) {
            int deep = depth(needle, sample, weight, seconds);
            samples[sample].write(needle, deep, weight, seconds);
            needles[needle].wearBy(deep);
            return deep;
        }

        int whyNotSoftened(int sample) {
            if (!hasSample(sample)) {
                return NOT_THERE;
            }
            return samples[sample].bath == NONE ? ALLOWED : IN_A_BATH;
        }

        /** Behind how many minutes a sample would be ready in a bath; NONE if not soon enough. */
        int minutesIn(int sample, int bath) {
            int around = degreeAround(bath);
            int degree = samples[sample].degree;
            for (int minute = 0; minute <= LONGEST_WAIT; minute++) {
                if (Math.abs(around - degree) <= settings[NEAR]) {
                    return minute;
                }
                degree = degreeNext(degree, around);
            }
            return NONE;
        }

        int minutesToReady(int sample) {
            int bath = samples[sample].bath;
            return bath == NONE ? NONE : minutesIn(sample, bath);
        }

        int quickestBath(int sample) {
            int best = NONE;
            int fewest = LONGEST_WAIT + 1;
            for (int bath = 0; bath < BATHS; bath++) {
                int wait = hasRoomFor(sample, bath) ? minutesIn(sample, bath) : NONE;
                if (wait != NONE && wait < fewest) {
                    best = bath;
                    fewest = wait;
                }
            }
            return best;
        }

        int greatestDifferenceIn(int bath) {
            int greatest = NONE;
            for (int sample = 0; sample < sampleCount; sample++) {
                if (samples[sample].bath == bath) {
                    greatest = Math.max(greatest, Math.abs(degreeAround(bath) - samples[sample].degree));
                }
            }
            return greatest;
        }

        int bathNumber(int bath, int what) {
            switch (what) {
                case 0:
                    return degreeAround(bath);
                case 1:
                    return samplesIn(bath);
                default:
                    return greatestDifferenceIn(bath);
            }
        }

        int samplesWithPenetration() {
            int found = 0;
            for (int sample = 0; sample < sampleCount; sample++) {
                if (samples[sample].whyNoPenetration(settings[APART]) == ALLOWED) {
                    found++;
                }
            }
            return found;
        }

        int readingsSoFar() {
            int sum = 0;
            for (int needle = 0; needle < NEEDLES; needle++) {
                sum += needles[needle].readings;
            }
            return sum;
        }

        int bentNeedles() {
            int found = 0;
            for (int needle = 0; needle < NEEDLES; needle++) {
                if (needles[needle].bent) {
                    found++;
                }
            }
            return found;
        }

        int soldDrums() {
            int found = 0;
            for (int drum = 0; drum < drumCount; drum++) {
                if (drums[drum].grade != NONE) {
                    found++;
                }
            }
            return found;
        }

        int total(int what) {
            switch (what) {
                case 0:
                    return drumCount;
                case 1:
                    return sampleCount;
                case 2:
                    return readingsSoFar();
                case 3:
                    return bentNeedles();
                case 4:
                    return soldDrums();
                case 5:
                    return minutes;
                case 6:
                    return samplesWithPenetration();
                case 7:
                    return renewed;
                case 8:
                    return settings[NEAR];
                case 9:
                    return settings[APART];
                default:
                    return settings[INDEX_LESS];
            }
        }
    }

    /** What is reckoned of the samples of a drum, and its sale. */
    private static final class Trade {
        static int samplesOf(Lab lab, int drum) {
            int found = 0;
            for (int sample = 0; sample < lab.sampleCount; sample++) {
                if (lab.samples[sample].drum == drum) {
                    found++;
                }
            }
            return found;
        }

        static int meanPenetration(Lab lab, int drum) {
            int sum = 0;
            int found = 0;
            for (int sample = 0; sample < lab.sampleCount; sample++) {
                Specimen specimen = lab.samples[sample];
                int penetration = specimen.drum == drum ? specimen.penetration(lab.settings[APART]) : NONE;
                if (penetration != NONE) {
                    sum += penetration;
                    found++;
                }
            }
            return found == 0 ? NONE : divided(sum, found);
        }

        static int meanSoftening(Lab lab, int drum) {
            int sum = 0;
            int found = 0;
            for (int sample = 0; sample < lab.sampleCount; sample++) {
                Specimen specimen = lab.samples[sample];
                if (specimen.drum == drum && specimen.softening != NONE) {
                    sum += specimen.softening;
                    found++;
                }
            }
            return found == 0 ? NONE : divided(sum, found);
        }

        /** The mean penetration told by going through the readings. */
        static int meanByReadings(Lab lab, int drum) {
            int sum = 0;
            int found = 0;
            for (int sample = 0; sample < lab.sampleCount; sample++) {
                Specimen specimen = lab.samples[sample];
                if (specimen.drum != drum || specimen.whyNoPenetration(lab.settings[APART]) != ALLOWED) {
                    continue;
                }
                int depths = 0;
                for (int back = 1; back <= LATEST; back++) {
                    depths += specimen.mark(specimen.readings - back, DEPTH_MARK);
                }
                sum += Math.floorDiv(depths, LATEST);
                found++;
            }
            return found == 0 ? NONE : divided(sum, found);
        }

        static int index(int penetration, int softening, int less) {
            return Math.floorDiv(penetration, 10) + Math.floorDiv(softening - 450, 10) - less;
        }

        /** The index as it is shown: never below 0, so that it is not taken for NONE. */
        static int shownIndex(Lab lab, int drum, int penetration) {
            int softening = meanSoftening(lab, drum);
            if (penetration == NONE || softening == NONE) {
                return NONE;
            }
            return index(penetration, softening, lab.settings[INDEX_LESS]) + SHOWN_INDEX_MORE;
        }

        static int samplesWithPenetration(Lab lab, int drum) {
            int found = 0;
            for (int sample = 0; sample < lab.sampleCount; sample++) {
                Specimen specimen = lab.samples[sample];
                if (specimen.drum == drum && specimen.whyNoPenetration(lab.settings[APART]) == ALLOWED) {
                    found++;
                }
            }
            return found;
        }

        static int needlesRead(Lab lab, int drum) {
            int mask = 0;
            for (int sample = 0; sample < lab.sampleCount; sample++) {
                Specimen specimen = lab.samples[sample];
                if (specimen.drum == drum && specimen.whyNoPenetration(lab.settings[APART]) == ALLOWED) {
                    mask |= specimen.latestNeedles();
                }
            }
            return Integer.bitCount(mask);
        }

        static int whyNotSold(Lab lab, int drum) {
            if (!lab.hasDrum(drum)) {
                return NOT_THERE;
            }
            if (lab.drums[drum].grade != NONE) {
                return SOLD;
            }
            if (samplesWithPenetration(lab, drum) < 2) {
                return FEW_PENETRATIONS;
            }
            if (needlesRead(lab, drum) < 2) {
                return FEW_NEEDLES;
            }
            int softening = meanSoftening(lab, drum);
            if (softening == NONE) {
                return NO_SOFTENING;
            }
            int index = index(meanPenetration(lab, drum), softening, lab.settings[INDEX_LESS]);
            return index < -20 || index > 20 ? INDEX_OUT : ALLOWED;
        }

        /** Sells the drum; returns its class. */
        static int close(Lab lab, int drum) {
            int grade = Math.floorDiv(meanPenetration(lab, drum), 20);
            lab.drums[drum].grade = grade;
            return grade;
        }

        static int number(Lab lab, int drum, int what) {
            switch (what) {
                case 0:
                    return lab.drums[drum].softness;
                case 1:
                    return lab.drums[drum].days;
                case 2:
                    return lab.drums[drum].hardness();
                case 3:
                    return samplesOf(lab, drum);
                case 4:
                    return meanPenetration(lab, drum);
                case 5:
                    return meanSoftening(lab, drum);
                case 6:
                    return shownIndex(lab, drum, meanPenetration(lab, drum));
                case 7:
                    return shownIndex(lab, drum, meanByReadings(lab, drum));
                default:
                    return lab.drums[drum].grade;
            }
        }
    }

    /** The saved states and the snapshot, in rows that are used again. */
    private static final class History {
        final Lab[] saved = new Lab[MOST_SAVED];
        final Lab snapshot = new Lab();
        int count;
        boolean kept;

        History() {
            for (int place = 0; place < MOST_SAVED; place++) {
                saved[place] = new Lab();
            }
        }

        void save(Lab lab) {
            if (count >= MOST_SAVED) {
                dropOldest();
            }
            saved[count].copyFrom(lab);
            count++;
        }

        private void dropOldest() {
            Lab oldest = saved[0];
            for (int place = 1; place < MOST_SAVED; place++) {
                saved[place - 1] = saved[place];
            }
            saved[MOST_SAVED - 1] = oldest;
            count = MOST_SAVED - 1;
        }

        void goBack(Lab lab) {
            if (count > 0) {
                count--;
                lab.copyFrom(saved[count]);
            }
        }
    }

    /** One part of the orders, read a character at a time. */
    private static final class Part {
        static final int WEIGHT_SLOT = 3;
        static final int SECONDS_SLOT = 5;
        private static final int MOST_SLOTS = 6;

        int letter;
        // One character for each thing that the part has behind its letter; see least() and most().
        private String slots = "";
        private int slot;
        private int taken;
        final int[] values = new int[MOST_SLOTS];

        void clear() {
            letter = ' ';
            slots = "";
            slot = 0;
            taken = 0;
            for (int place = 0; place < MOST_SLOTS; place++) {
                values[place] = 0;
            }
        }

        /** Takes the next character; false if no part goes on so. */
        boolean accept(char sign) {
            if (slots.isEmpty()) {
                letter = sign;
                slots = slotsBehind(sign);
                return !slots.isEmpty();
            }
            if (fillSlot(sign)) {
                return true;
            }
            if (!isSlotFull() || slot + 1 >= slots.length()) {
                return false;
            }
            slot++;
            taken = 0;
            return fillSlot(sign);
        }

        boolean isComplete() {
            return !slots.isEmpty() && slot + 1 == slots.length() && isSlotFull();
        }

        private static String slotsBehind(int sign) {
            switch (sign) {
                case 's':
                case '$':
                    return "D";
                case 'b':
                    return "PB";
                case 'n':
                    return "NP*W/S";
                case 'o':
                    return "P";
                case '+':
                    return "M";
                default:
                    return "";
            }
        }

        private int slotKind() {
            return slot < slots.length() ? slots.charAt(slot) : ' ';
        }

        private boolean fillSlot(char sign) {
            int kind = slotKind();
            if (kind == '*' || kind == '/' || (kind == 'B' && sign == '-')) {
                return fillWithSign(kind, sign);
            }
            // Behind a 0 no figure may stand, and behind a "-" neither.
            if (sign < '0' || sign > '9' || (taken > 0 && values[slot] <= 0)) {
                return false;
            }
            int value = values[slot] * 10 + (sign - '0');
            if (!canBecome(value, least(kind), most(kind))) {
                return false;
            }
            values[slot] = value;
            taken++;
            return true;
        }

        private boolean fillWithSign(int kind, int sign) {
            if (taken > 0 || (kind != 'B' && sign != kind)) {
                return false;
            }
            values[slot] = NONE;
            taken = 1;
            return true;
        }

        private boolean isSlotFull() {
            if (taken == 0) {
                return false;
            }
            int value = values[slot];
            int kind = slotKind();
            return value == NONE || (value >= least(kind) && value <= most(kind));
        }

        /** Whether a number, with none or more figures behind it, is in a range below 1000. */
        private static boolean canBecome(int value, int least, int most) {
            if (value == 0) {
                return least == 0;
            }
            int low = value;
            int high = value;
            for (int more = 0; more < 3; more++) {
                if (low <= most && high >= least) {
                    return true;
                }
                low = low * 10;
                high = high * 10 + 9;
            }
            return false;
        }

        private static int least(int kind) {
            switch (kind) {
                case 'W':
                    return LEAST_WEIGHT;
                case 'S':
                case 'M':
                    return 1;
                default:
                    return 0;
            }
        }

        private static int most(int kind) {
            switch (kind) {
                case 'D':
                    return MOST_DRUMS - 1;
                case 'P':
                    return MOST_SAMPLES - 1;
                case 'B':
                    return BATHS - 1;
                case 'N':
                    return NEEDLES - 1;
                case 'W':
                    return MOST_WEIGHT;
                case 'S':
                    return MOST_SECONDS;
                default:
                    return MOST_AT_ONCE;
            }
        }
    }

    /** The buffer, and how it is read from left to right. */
    private static final class OrderText {
        final char[] characters = new char[MOST_CHARACTERS];
        final Part part = new Part();
        int length;
        private int place;

        int add(char sign) {
            if (length < MOST_CHARACTERS) {
                characters[length] = sign;
                length++;
            }
            return length;
        }

        /** Returns the length that the buffer had. */
        int empty() {
            int had = length;
            length = 0;
            return had;
        }

        int errorPlace() {
            part.clear();
            for (int at = 0; at < length; at++) {
                char sign = characters[at];
                if (sign == ';' && part.isComplete()) {
                    part.clear();
                } else if (!part.accept(sign)) {
                    return at;
                }
            }
            return length;
        }

        /** Whether the buffer is complete orders; the first part is read next then. */
        boolean isComplete() {
            boolean complete = errorPlace() == length && part.isComplete();
            place = 0;
            return complete;
        }

        /** Reads the next part; false if there is none. */
        boolean nextPart() {
            if (place >= length) {
                return false;
            }
            part.clear();
            int at = place;
            for (; at < length && characters[at] != ';'; at++) {
                part.accept(characters[at]);
            }
            place = at + 1;
            return true;
        }
    }
}
