import java.math.BigInteger;

/** Promises 28 to 35 at their boundaries. EdgesTest runs it. */
final class WouldBeEdges {
    private static final int LEAST = Integer.MIN_VALUE;
    private static final int MOST = Integer.MAX_VALUE;

    private WouldBeEdges() {
    }

    static void run() {
        promise28();
        promise29();
        promise30();
        promise30Refused();
        promise31();
        promise31Refused();
        promise32();
        promise32Waits();
        promise33();
        promise33Room();
        promise34();
        promise35();
        promise35Values();
    }

    private static void promise28() {
        Edge.says(28, "Tells why a needle cannot sink into a sample.");
        BitumenNeedle x = Edge.warmed(20, 2);
        x.sink(1, 0, 50, 1);
        Edge.is("a bent needle", x.noSink(1, 0), 1);
        Edge.is("another one", x.noSink(0, 0), 0);
        Edge.says(28, "- `needle`: 0 to 2");
        for (int needle = 0; needle < 3; needle++) {
            Edge.is("needle " + needle, x.noSink(needle, 0), needle == 1 ? 1 : 0);
        }
        Edge.says(28, "- `sample`: its number");
        BitumenNeedle eight = Edge.warmed(100, 8);
        eight.bath(7, -1);
        Edge.is("the last of 8", eight.noSink(0, 7), 2);
        Edge.is("the first of 8", eight.noSink(0, 0), 0);
        Edge.says(28, "Returns the reason, 1 to 4; 0 if it can.");
        for (int time = 0; time < 8; time++) {
            x.sink(0, 0, 200, 60);
        }
        Edge.is("9 readings", x.noSink(0, 0), 4);
        Edge.is("no readings", x.noSink(0, 1), 0);
        x.warm(0, 256);
        Edge.is("6 too cold, 9 readings", x.noSink(0, 0), 3);
        Edge.is("6 too cold", x.noSink(2, 1), 3);
        x.set(0, 6);
        Edge.is("6 too cold with 6", x.noSink(2, 1), 0);
        x.bath(1, -1);
        Edge.is("in no bath", x.noSink(2, 1), 2);
        Edge.is("in no bath, bent", x.noSink(1, 1), 1);
        x.renew(1);
        Edge.is("in no bath, renewed", x.noSink(1, 1), 2);
        Edge.says(28, "Throws `IndexOutOfBoundsException` if there is no such needle or sample");
        for (int needle : new int[] {-1, 3, LEAST, MOST}) {
            Edge.noIndex(x, "noSink(" + needle + ", 0)", () -> x.noSink(needle, 0));
        }
        for (int sample : new int[] {-1, 2, 8, LEAST, MOST}) {
            Edge.noIndex(x, "noSink(0, " + sample + ")", () -> x.noSink(0, sample));
        }
        Edge.noIndex(eight, "noSink(0, 8) of 8", () -> eight.noSink(0, 8));
        BitumenNeedle none = new BitumenNeedle();
        Edge.noIndex(none, "noSink(0, 0) without samples", () -> none.noSink(0, 0));
    }

    private static void promise29() {
        Edge.says(29, "Tells why a drum cannot be sold.");
        BitumenNeedle x = Edge.sellable(100);
        x.drum(100);
        Edge.is("a drum that can be", x.noSale(0), 0);
        Edge.is("a drum without samples", x.noSale(1), 9);
        Edge.says(29, "- `drum`: its number");
        BitumenNeedle six = Edge.drums(100, 100, 100, 100, 100, 100);
        Edge.is("the first of 6", six.noSale(0), 9);
        Edge.is("the last of 6", six.noSale(5), 9);
        Edge.says(29, "Returns the reason, 9 to 12, 15 if it is sold already; 0 if it can.");
        x.set(2, 20);
        Edge.is("the index -21", x.noSale(0), 12);
        x.set(2, 19);
        Edge.is("the index -20", x.noSale(0), 0);
        BitumenNeedle y = Edge.readTwice(100);
        Edge.is("no softening", y.noSale(0), 11);
        BitumenNeedle z = Edge.warmed(100, 2);
        Edge.sink(z, 3, 0, 0);
        Edge.is("one penetration", z.noSale(0), 9);
        Edge.sink(z, 3, 0, 1);
        Edge.is("one needle, no softening", z.noSale(0), 10);
        z.bath(0, -1);
        z.ring(0);
        z.set(2, 60);
        Edge.is("one needle, low index", z.noSale(0), 10);
        Edge.sink(z, 1, 1, 1);
        Edge.is("low index", z.noSale(0), 12);
        z.toss(1);
        Edge.is("one penetration, one needle", z.noSale(0), 9);
        x.sell(0);
        Edge.is("sold already", x.noSale(0), 15);
        x.set(1, 0);
        Edge.is("sold already, and no penetration now", x.noSale(0), 15);
        Edge.says(29, "Throws `IndexOutOfBoundsException` if there is no such drum");
        for (int drum : new int[] {-1, 2, 6, LEAST, MOST}) {
            Edge.noIndex(x, "noSale(" + drum + ")", () -> x.noSale(drum));
        }
        Edge.noIndex(six, "noSale(6) of 6", () -> six.noSale(6));
        BitumenNeedle none = new BitumenNeedle();
        Edge.noIndex(none, "noSale(0) without drums", () -> none.noSale(0));
    }

    private static void promise30() {
        Edge.says(30, "Tells how deep a needle would sink now, whether it can or not.");
        BitumenNeedle x = Edge.samples(20, 1);
        Edge.is("in no bath, 90 percent of 9", x.ifSunk(0, 0, 100, 5), 8);
        x.warm(2, 900);
        x.bath(0, 2);
        Edge.is("in a bath that is far warmer", x.ifSunk(0, 0, 100, 5), 8);
        x.pass(99);
        Edge.is("230 percent of 9", x.ifSunk(0, 0, 100, 5), 20);
        for (int reading = 0; reading < 9; reading++) {
            x.sink(1, 0, 100, 5);
        }
        Edge.is("9 readings", x.ifSunk(1, 0, 100, 5), 11);
        BitumenNeedle bent = Edge.warmed(20, 1);
        bent.sink(0, 0, 50, 1);
        Edge.is("a bent one with wear 1", bent.ifSunk(0, 0, 100, 5), 8);
        Edge.is("nothing is read by it", bent.sampleOf(0, 4), 1);
        Edge.says(30, "- `needle`: 0 to 2");
        Edge.is("needle 0", bent.ifSunk(0, 0, 51, 2), 1);
        Edge.is("needle 1", bent.ifSunk(1, 0, 51, 2), 2);
        Edge.is("needle 2", bent.ifSunk(2, 0, 51, 2), 2);
        Edge.says(30, "- `sample`: its number");
        BitumenNeedle y = Edge.drums(20, 300);
        for (int sample = 0; sample < 8; sample++) {
            y.sample(sample == 7 ? 1 : 0);
        }
        Edge.is("the first of 8", y.ifSunk(0, 0, 200, 10), 35);
        Edge.is("the last of 8", y.ifSunk(0, 7, 200, 10), 400);
        Edge.says(30, "- `weight`: 50 to 200");
        Edge.is("50 grams", y.ifSunk(0, 0, 50, 60), 52);
        Edge.is("200 grams", y.ifSunk(0, 0, 200, 60), 211);
        Edge.says(30, "- `seconds`: 1 to 60");
        Edge.is("1 second", y.ifSunk(0, 7, 200, 1), 45);
        Edge.is("60 seconds", y.ifSunk(0, 7, 50, 60), 400);
        Edge.says(30, "Returns the depth.");
        BitumenNeedle z = Edge.warmed(100, 1);
        for (int time = 0; time < 9; time++) {
            int due = z.ifSunk(0, 0, 100, 5);
            Edge.is("what sink returns then", z.sink(0, 0, 100, 5), due);
        }
    }

    private static void promise30Refused() {
        Edge.says(30, "Throws `IndexOutOfBoundsException` if there is no such needle or sample");
        BitumenNeedle x = Edge.samples(100, 2);
        for (int needle : new int[] {-1, 3, LEAST, MOST}) {
            Edge.noIndex(x, "needle " + needle, () -> x.ifSunk(needle, 0, 100, 5));
            Edge.noIndex(x, "needle " + needle + " and 0 seconds", () -> x.ifSunk(needle, 0, 100, 0));
        }
        for (int sample : new int[] {-1, 2, 8, LEAST, MOST}) {
            Edge.noIndex(x, "sample " + sample, () -> x.ifSunk(0, sample, 100, 5));
            Edge.noIndex(x, "sample " + sample + " and 0 grams", () -> x.ifSunk(0, sample, 0, 5));
        }
        Edge.says(30, "Throws `IllegalArgumentException` if weight or seconds is out of range");
        for (int weight : new int[] {49, 201, 0, LEAST, MOST}) {
            Edge.noArgument(x, weight + " grams", () -> x.ifSunk(0, 1, weight, 5));
        }
        for (int seconds : new int[] {0, 61, -1, LEAST, MOST}) {
            Edge.noArgument(x, seconds + " seconds", () -> x.ifSunk(0, 1, 100, seconds));
        }
    }

    private static void promise31() {
        Edge.says(31, "Finds the seconds by which a depth is reached.");
        BitumenNeedle x = Edge.warmed(100, 2);
        Edge.is("45", x.secondsTo(0, 0, 100, 45), 5);
        Edge.is("46", x.secondsTo(0, 0, 100, 46), 6);
        Edge.says(31, "- `needle`: 0 to 2");
        x.sink(1, 0, 100, 5);
        Edge.is("needle 0", x.secondsTo(0, 0, 100, 45), 5);
        Edge.is("needle 1 with wear 1", x.secondsTo(1, 0, 100, 45), 6);
        Edge.is("needle 2", x.secondsTo(2, 0, 100, 45), 5);
        Edge.says(31, "- `sample`: its number");
        BitumenNeedle y = Edge.drums(20, 300);
        for (int sample = 0; sample < 8; sample++) {
            y.sample(sample == 7 ? 1 : 0);
        }
        Edge.is("the first of 8", y.secondsTo(0, 0, 200, 35), 10);
        Edge.is("the last of 8", y.secondsTo(0, 7, 200, 35), 1);
        Edge.says(31, "- `weight`: 50 to 200");
        Edge.is("50 grams", x.secondsTo(0, 0, 50, 272), 60);
        Edge.is("200 grams", x.secondsTo(0, 0, 200, 272), 15);
        Edge.says(31, "- `depth`: 1 to 400");
        Edge.is("1", x.secondsTo(0, 0, 50, 1), 1);
        Edge.is("400", x.secondsTo(0, 0, 200, 400), 22);
        Edge.says(31, "Returns the fewest seconds, 1 to 60, with which the needle would sink at least so deep now;");
        for (int depth = 1; depth <= 400; depth++) {
            BitumenNeedle each = Edge.warmed(100, 1);
            each.sink(1, 0, 100, 5);
            int fewest = each.secondsTo(1, 0, 77, depth);
            boolean reached = fewest >= 1 && fewest <= 60 && each.ifSunk(1, 0, 77, fewest) >= depth;
            Check.that("so deep by " + fewest + ": " + depth, reached || depth > each.ifSunk(1, 0, 77, 60));
            Check.that("not by a second less: " + depth, fewest <= 1 || each.ifSunk(1, 0, 77, fewest - 1) < depth);
        }
        BitumenNeedle bent = Edge.warmed(20, 1);
        bent.sink(0, 0, 50, 1);
        bent.bath(0, -1);
        Edge.is("bent and in no bath", bent.secondsTo(0, 0, 51, 2), 3);
        Edge.says(31, "NONE if it would not in 60.");
        Edge.is("273 by 50 grams", x.secondsTo(0, 0, 50, 273), -1);
        Edge.is("234 by 200 grams of 51", bent.secondsTo(0, 0, 200, 234), 60);
        Edge.is("235 by 200 grams of 51", bent.secondsTo(0, 0, 200, 235), -1);
        Edge.is("400 by 50 grams", x.secondsTo(0, 0, 50, 400), -1);
    }

    private static void promise31Refused() {
        Edge.says(31, "Throws `IndexOutOfBoundsException` if there is no such needle or sample");
        BitumenNeedle x = Edge.samples(100, 2);
        for (int needle : new int[] {-1, 3, LEAST, MOST}) {
            Edge.noIndex(x, "needle " + needle, () -> x.secondsTo(needle, 0, 100, 5));
            Edge.noIndex(x, "needle " + needle + " and depth 0", () -> x.secondsTo(needle, 0, 100, 0));
        }
        for (int sample : new int[] {-1, 2, 8, LEAST, MOST}) {
            Edge.noIndex(x, "sample " + sample, () -> x.secondsTo(0, sample, 100, 5));
            Edge.noIndex(x, "sample " + sample + " and 0 grams", () -> x.secondsTo(0, sample, 0, 5));
        }
        Edge.says(31, "Throws `IllegalArgumentException` if weight or depth is out of range");
        for (int weight : new int[] {49, 201, 0, LEAST, MOST}) {
            Edge.noArgument(x, weight + " grams", () -> x.secondsTo(0, 1, weight, 5));
        }
        for (int depth : new int[] {0, 401, -1, LEAST, MOST}) {
            Edge.noArgument(x, "depth " + depth, () -> x.secondsTo(0, 1, 100, depth));
        }
    }

    private static void promise32() {
        Edge.says(32, "Tells when a sample is warm enough.");
        BitumenNeedle x = Edge.samples(100, 2);
        x.bath(1, 1);
        Edge.is("200 in 250", x.readyIn(1), 9);
        x.pass(9);
        Edge.is("245 in 250", x.readyIn(1), 0);
        Edge.is("it can sink then", x.noSink(0, 1), 0);
        Edge.says(32, "- `sample`: its number");
        BitumenNeedle eight = Edge.samples(100, 8);
        eight.bath(7, 1);
        Edge.is("the last of 8", eight.readyIn(7), 9);
        Edge.is("the first of 8", eight.readyIn(0), -1);
        Edge.says(32, "Throws `IndexOutOfBoundsException` if there is no such sample");
        for (int sample : new int[] {-1, 2, 8, LEAST, MOST}) {
            Edge.noIndex(x, "readyIn(" + sample + ")", () -> x.readyIn(sample));
        }
        Edge.noIndex(eight, "readyIn(8) of 8", () -> eight.readyIn(8));
        BitumenNeedle none = new BitumenNeedle();
        Edge.noIndex(none, "readyIn(0) without samples", () -> none.readyIn(0));
    }

    private static void promise32Waits() {
        Edge.says(32, "Returns behind how many minutes it differs from its bath by at most setting 0,");
        int[][] waits = {{0, 900, 0}, {900, 0, 0}, {0, 900, 50}, {200, 206, 5}, {206, 200, 5}, {200, 350, 0}};
        for (int[] wait : waits) {
            BitumenNeedle x = Edge.samples(100, 1);
            x.warm(0, wait[0]);
            x.bath(0, 0);
            x.pass(99);
            x.warm(0, wait[1]);
            x.set(0, wait[2]);
            int minutes = x.readyIn(0);
            for (int minute = 0; minute < minutes; minute++) {
                Check.that("not before " + minutes, Math.abs(x.sampleOf(0, 2) - wait[1]) > wait[2]);
                x.pass(1);
            }
            Check.that("behind " + minutes, Math.abs(x.sampleOf(0, 2) - wait[1]) <= wait[2]);
            Edge.is("then", x.readyIn(0), 0);
        }
        BitumenNeedle y = Edge.samples(100, 1);
        y.bath(0, 1);
        int[] due = {14, 13, 12, 11, 10, 9, 8, 8, 7, 7, 6};
        for (int setting = 0; setting <= 10; setting++) {
            y.set(0, setting);
            Edge.is("200 in 250 with " + setting, y.readyIn(0), due[setting]);
        }
        Edge.says(32, "0 if so now;");
        y.set(0, 50);
        Edge.is("200 in 250 with 50", y.readyIn(0), 0);
        y.set(0, 49);
        Edge.is("200 in 250 with 49", y.readyIn(0), 1);
        y.warm(1, 151);
        Edge.is("200 in 151 with 49", y.readyIn(0), 0);
        y.warm(1, 150);
        Edge.is("200 in 150 with 49", y.readyIn(0), 1);
        y.set(0, 0);
        y.warm(1, 200);
        Edge.is("200 in 200 with 0", y.readyIn(0), 0);
        y.warm(1, 201);
        Edge.is("200 in 201 with 0", y.readyIn(0), 1);
        y.warm(1, 199);
        Edge.is("200 in 199 with 0", y.readyIn(0), 1);
        Edge.says(32, "NONE if not in 200, or it lies in no bath.");
        y.bath(0, -1);
        Edge.is("in no bath", y.readyIn(0), -1);
        // Each degree is reached in far less than 200 minutes, so that NONE comes without a bath alone.
        y.warm(1, 900);
        y.bath(0, 1);
        Edge.is("from 200 to 900", y.readyIn(0), minutesUp(200, 900));
    }

    private static int minutesUp(int from, int to) {
        int minutes = 0;
        for (int degree = from; degree < to; minutes++) {
            degree += Math.max(1, (to - degree) / 4);
        }
        return minutes;
    }

    private static void promise33() {
        Edge.says(33, "Finds the bath in which a sample would be ready first.");
        BitumenNeedle x = Edge.samples(100, 1);
        // Down to 155 it takes 8 minutes, up to 245 it takes 9, and up to 345 it takes 13.
        Edge.is("150, 250 and 350", x.bestBath(0), 0);
        x.warm(0, 0);
        Edge.is("0, 250 and 350", x.bestBath(0), 1);
        x.warm(0, 900);
        x.warm(1, 900);
        Edge.is("900, 900 and 350", x.bestBath(0), 2);
        Edge.is("nothing is changed", x.sampleOf(0, 3), -1);
        Edge.says(33, "- `sample`: its number");
        BitumenNeedle y = Edge.samples(100, 8);
        y.warm(0, 100);
        y.warm(2, 900);
        y.bath(7, 2);
        y.pass(99);
        Edge.is("the last of 8, at 900", y.bestBath(7), 2);
        Edge.is("the first of 8, at 200", y.bestBath(0), 1);
        Edge.says(33, "Throws `IndexOutOfBoundsException` if there is no such sample");
        for (int sample : new int[] {-1, 8, LEAST, MOST}) {
            Edge.noIndex(y, "bestBath(" + sample + ")", () -> y.bestBath(sample));
        }
        BitumenNeedle none = new BitumenNeedle();
        Edge.noIndex(none, "bestBath(0) without samples", () -> none.bestBath(0));
    }

    private static void promise33Room() {
        Edge.says(33, "Returns of the baths with room for it (or in which it lies)");
        BitumenNeedle x = Edge.samples(100, 8);
        x.warm(0, 200);
        x.warm(1, 210);
        x.warm(2, 220);
        Edge.is("with room in all", x.bestBath(7), 0);
        x.bath(0, 0);
        x.bath(1, 0);
        Edge.is("with 2 in the first", x.bestBath(7), 0);
        x.bath(2, 0);
        Edge.is("with 3 in the first", x.bestBath(7), 1);
        Edge.is("for one of the 3", x.bestBath(1), 0);
        x.bath(3, 1);
        x.bath(4, 1);
        x.bath(5, 1);
        Edge.is("with 3 in the first and the second", x.bestBath(7), 2);
        Edge.is("for one of the second", x.bestBath(4), 1);
        x.bath(6, 2);
        Edge.is("with 7 in baths", x.bestBath(7), 2);
        x.toss(0);
        Edge.is("behind toss of one of the first", x.bestBath(6), 0);
        Edge.says(33, "the one in which it would differ from the bath by at most setting 0 behind the fewest minutes (200 at"
                + " most);");
        BitumenNeedle y = Edge.samples(100, 1);
        y.warm(0, 194);
        y.warm(1, 206);
        y.warm(2, 205);
        Edge.is("1, 1 and 0 minutes", y.bestBath(0), 2);
        y.set(0, 4);
        Edge.is("193 and 195 with 4", y.bestBath(0), bestOf(y));
        y.warm(0, 0);
        y.warm(1, 900);
        y.warm(2, 899);
        y.set(0, 0);
        Edge.is("far away", y.bestBath(0), bestOf(y));
        Edge.says(33, "of several the lowest;");
        y.warm(0, 205);
        y.warm(1, 203);
        y.warm(2, 201);
        y.set(0, 5);
        Edge.is("all at once", y.bestBath(0), 0);
        y.warm(0, 206);
        Edge.is("the last two at once", y.bestBath(0), 1);
        y.warm(1, 206);
        y.warm(2, 206);
        Edge.is("all in a minute", y.bestBath(0), 0);
        Edge.says(33, "NONE if there is none.");
        // Seven other samples fill two baths, and each degree is reached in 200 minutes: there is always one.
        BitumenNeedle z = Edge.samples(100, 8);
        for (int sample = 0; sample < 6; sample++) {
            z.bath(sample, sample / 3);
        }
        z.warm(2, 900);
        z.set(0, 0);
        Edge.is("the only one with room, and far away", z.bestBath(7), 2);
        z.warm(2, 0);
        Edge.is("the only one with room, and far away", z.bestBath(7), 2);
    }

    /** The best bath of the only sample, by readyIn when it lies there. */
    private static int bestOf(BitumenNeedle x) {
        int best = -1;
        int fewest = 201;
        for (int bath = 0; bath < 3; bath++) {
            x.bath(0, bath);
            int minutes = x.readyIn(0);
            x.undo();
            if (minutes >= 0 && minutes < fewest) {
                fewest = minutes;
                best = bath;
            }
        }
        return best;
    }

    private static void promise34() {
        Edge.says(34, "Returns how many samples have a penetration.");
        BitumenNeedle x = Edge.warmed(100, 8);
        Check.that("none of 8", x.readShare() == 0.0);
        Check.that("none of 1", Edge.samples(100, 1).readShare() == 0.0);
        x.sink(0, 0, 100, 5);
        x.sink(0, 0, 100, 5);
        Check.that("none of 8, with two readings", x.readShare() == 0.0);
        x.sink(0, 0, 100, 5);
        Check.that("1 of 8", x.readShare() == 0.125);
        x.set(1, 1);
        Check.that("none of 8, apart", x.readShare() == 0.0);
        x.set(1, 2);
        Edge.says(34, "Returns these, as a double, divided by all samples;");
        for (int sample = 1; sample < 7; sample++) {
            for (int time = 0; time < 3; time++) {
                x.sink(1 + sample / 4, sample, 100, 5);
            }
            Check.that(sample + 1 + " of 8", x.readShare() == (sample + 1) / 8.0);
        }
        x.toss(6);
        Check.that("6 of 7", x.readShare() == 6.0 / 7.0);
        x.toss(6);
        Check.that("6 of 6", x.readShare() == 1.0);
        BitumenNeedle third = Edge.warmed(300, 3);
        Edge.sink(third, 3, 0, 2);
        Check.that("1 of 3", third.readShare() == 1.0 / 3.0);
        Edge.sink(third, 3, 0, 1);
        Check.that("2 of 3", third.readShare() == 2.0 / 3.0);
        Edge.says(34, "1.0 without samples.");
        Check.that("a new object", new BitumenNeedle().readShare() == 1.0);
        for (int sample = 0; sample < 3; sample++) {
            third.toss(0);
        }
        Check.that("when all are thrown away", third.readShare() == 1.0);
    }

    private static BigInteger hash(BigInteger before, long... values) {
        BigInteger hash = before;
        for (long value : values) {
            hash = hash.multiply(BigInteger.valueOf(31)).add(BigInteger.valueOf(value));
        }
        return hash;
    }

    private static void promise35() {
        Edge.says(35, "Computes a hash of the whole state.");
        BitumenNeedle x = new BitumenNeedle();
        long first = x.digest();
        Edge.is("again", x.digest(), first);
        Edge.is("of another new object", new BitumenNeedle().digest(), first);
        x.append('s');
        Check.that("of another buffer", x.digest() != first);
        x.clearBuffer();
        Edge.is("of the same again", x.digest(), first);
        x.keep();
        Edge.is("the snapshot is not of it", x.digest(), first);
        Edge.says(35, "The hash starts at 3767.");
        long[] values = {0, 0, 0, 0, 0, 0, 0, 0, 5, 12, 8, 0, 0, 0, 0, 0, 0, 0, 0, 0, 0, 150, 0, -1, 250, 0, -1, 350, 0,
            -1, -1, -1, 0x3ff0000000000000L, 0};
        Edge.is("of a new object", first, hash(BigInteger.valueOf(3767), values).longValue());
        Edge.says(35, "For each value v of the following list, in order, the hash becomes 31 * hash + v, in long arithmetic with"
                + " overflow.");
        Check.that("the hash of a new object is beyond a long",
                hash(BigInteger.valueOf(3767), values).bitLength() > 64);
        for (int sign = 33; sign <= 92; sign++) {
            x.append(sign);
        }
        // The last value of the new object was the length, 0.
        BigInteger due = hash(BigInteger.valueOf(3767), values).add(BigInteger.valueOf(60));
        for (int sign = 33; sign <= 92; sign++) {
            due = hash(due, sign);
        }
        Edge.is("with 60 characters", x.digest(), due.longValue());
    }

    /** Makes the same state each time, since an object is good for 512 calls alone. */
    private interface Maker {
        BitumenNeedle make();
    }

    private static BigInteger hashOfDrums(BigInteger before, BitumenNeedle x) {
        BigInteger hash = before;
        int drums = x.count(0);
        for (int drum = 0; drum < drums; drum++) {
            for (int what = 0; what <= 8; what++) {
                hash = hash(hash, x.drumOf(drum, what));
            }
            hash = hash(hash, x.noSale(drum));
        }
        return hash;
    }

    private static BigInteger hashOfSample(BigInteger before, BitumenNeedle x, int sample) {
        BigInteger hash = before;
        for (int what = 0; what <= 8; what++) {
            hash = hash(hash, x.sampleOf(sample, what));
        }
        int readings = x.sampleOf(sample, 4);
        for (int place = 0; place < readings * 4; place++) {
            hash = hash(hash, x.reading(sample, place / 4, place % 4));
        }
        return hash(hash, x.readyIn(sample), x.bestBath(sample), x.noSink(0, sample), x.noSink(1, sample),
                x.noSink(2, sample));
    }

    /** Looks whether the digest is as the list of promise 35 tells it, by the looks. */
    private static void digestIsListed(String state, String buffer, Maker maker) {
        BitumenNeedle x = maker.make();
        BigInteger hash = BigInteger.valueOf(3767);
        for (int what = 0; what <= 11; what++) {
            hash = hash(hash, x.count(what));
        }
        hash = hashOfDrums(hash, x);
        int samples = x.count(1);
        for (int sample = 0; sample < samples; sample++) {
            hash = hashOfSample(hash, maker.make(), sample);
        }
        for (int place = 0; place < 9; place++) {
            hash = hash(hash, x.needle(place / 3, place % 3));
        }
        for (int place = 0; place < 9; place++) {
            hash = hash(hash, x.bathOf(place / 3, place % 3));
        }
        hash = hash(hash, x.stopped(0), x.stopped(1), Double.doubleToLongBits(x.readShare()), buffer.length());
        for (int place = 0; place < buffer.length(); place++) {
            hash = hash(hash, buffer.charAt(place));
        }
        Edge.is("the digest " + state, x.digest(), hash.longValue());
    }

    /** 6 drums, 8 samples of the first, and so many readings, three of each sample. */
    private static BitumenNeedle full(int readings) {
        BitumenNeedle x = Edge.warmed(100, 8);
        for (int drum = 1; drum < 6; drum++) {
            x.drum(drum * 50);
        }
        for (int reading = 0; reading < readings; reading++) {
            x.sink(reading % 3, reading / 3, 100, 5);
        }
        return x;
    }

    /** The same with all readings, and behind these orders. */
    private static BitumenNeedle behind(String orders) {
        BitumenNeedle x = full(24);
        Edge.type(x, orders).obey();
        return x;
    }

    private static BitumenNeedle withNine() {
        BitumenNeedle x = Edge.warmed(300, 7);
        for (int sink = 0; sink < 9; sink++) {
            x.sink(2, 6, 200, 60);
        }
        x.renew(2);
        return x;
    }

    private static void promise35Values() {
        Edge.says(35, "The values are: count(0) to count(11); for each drum its numbers 0 to 8, and noSale; for each sample its"
                + " numbers 0 to 8, each of its readings with 0 to 3, readyIn, bestBath, and noSink with the needles 0 to"
                + " 2; for each needle its numbers 0 to 2; for each bath its numbers 0 to 2; stopped with 0 and 1; the"
                + " bits of readShare (as Double.doubleToLongBits); the length of the buffer and each of its character"
                + " codes.");
        digestIsListed("of a new object", "", BitumenNeedle::new);
        for (int reading = 0; reading <= 24; reading++) {
            int readings = reading;
            digestIsListed("of 8 samples, " + readings + " readings", "", () -> full(readings));
        }
        String orders = "b7-;o7;$0;n00*50/1;+7";
        BitumenNeedle sold = behind(orders);
        Edge.is("a drum that is sold, a needle that is bent", sold.count(4) + 10 * sold.count(3), 11);
        digestIsListed("with these", "", () -> behind(orders));
        digestIsListed("with a stop", "", () -> behind("+1;s0"));
        digestIsListed("with a buffer", "~!s0;", () -> Edge.type(full(4), "~!s0;"));
        digestIsListed("with a full buffer", "+1;".repeat(20), () -> Edge.type(full(4), "+1;".repeat(20)));
        digestIsListed("of a sample with 9 readings", "", WouldBeEdges::withNine);
        Edge.says(35, "Returns the hash.");
        for (int gone = 0; gone <= 7; gone++) {
            int tossed = gone;
            digestIsListed("with a share of 1 by " + (7 - gone), "", () -> {
                BitumenNeedle x = Edge.warmed(300, 7);
                Edge.sink(x, 3, 0, 6);
                for (int toss = 0; toss < tossed; toss++) {
                    x.toss(0);
                }
                return x;
            });
        }
    }
}
