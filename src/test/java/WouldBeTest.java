/** Promises 28 to 35: what would be. */
final class WouldBeTest {
    private WouldBeTest() {
    }

    public static void main(String[] args) {
        promise28();
        promise29();
        promise30();
        promise31();
        promise32();
        promise33();
        promise34();
        promise35();
        promise35Shares();
        Check.finish("WouldBeTest");
    }

    private static void promise28() {
        BitumenNeedle x = NeedlesTest.warmed(60, 1);
        Check.noIndex("28: needle -1", () -> x.noSink(-1, 0));
        Check.noIndex("28: needle 3", () -> x.noSink(3, 0));
        Check.noIndex("28: sample -1", () -> x.noSink(0, -1));
        Check.noIndex("28: sample 1", () -> x.noSink(0, 1));
        Check.equal("28: it can", x.noSink(0, 0), 0);
        x.set(0, 0);
        Check.equal("28: the same degree", x.noSink(0, 0), 0);
        x.warm(0, 251);
        Check.equal("28: one beside", x.noSink(0, 0), 3);
        x.set(0, 1);
        Check.equal("28: one is let go", x.noSink(0, 0), 0);
        for (int i = 0; i < 8; i++) {
            x.sink(i % 2, 0, 100, 20);
        }
        Check.equal("28: eight readings", x.noSink(2, 0), 0);
        x.sink(2, 0, 100, 20);
        Check.equal("28: nine readings", x.noSink(2, 0), 4);
        x.bath(0, -1);
        Check.equal("28: no bath", x.noSink(2, 0), 2);
        BitumenNeedle y = NeedlesTest.warmed(20, 1);
        y.sink(0, 0, 100, 1);
        Check.equal("28: the depth 0 comes", y.sink(0, 0, 50, 1), 0);
        Check.equal("28: bent", y.noSink(0, 0), 1);
        y.renew(0);
        Check.equal("28: a new one", y.noSink(0, 0), 0);
    }

    private static void promise29() {
        BitumenNeedle x = NeedlesTest.warmed(100, 2);
        Check.noIndex("29: -1", () -> x.noSale(-1));
        Check.noIndex("29: 1", () -> x.noSale(1));
        x.drum(100);
        Check.equal("29: no penetrations", x.noSale(0), 9);
        for (int i = 0; i < 3; i++) {
            x.sink(0, 0, 100, 5);
            x.sink(0, 1, 100, 5);
        }
        Check.equal("29: one needle", x.noSale(0), 10);
        x.sink(1, 1, 100, 5);
        Check.equal("29: no softening", x.noSale(0), 11);
        x.bath(0, -1);
        x.ring(0);
        Check.equal("29: it can", x.noSale(0), 0);
        Check.equal("29: the other drum", x.noSale(1), 9);
        x.set(2, 60);
        Check.equal("29: its index", x.noSale(0), 12);
        x.set(1, 0);
        Check.equal("29: 9 comes first", x.noSale(0), 9);
        x.set(1, 12);
        x.set(2, 0);
        x.sell(0);
        Check.equal("29: sold", x.noSale(0), 15);
    }

    private static void promise30() {
        BitumenNeedle x = new BitumenNeedle();
        x.drum(60);
        x.sample(0);
        Check.noIndex("30: needle -1", () -> x.ifSunk(-1, 0, 100, 5));
        Check.noIndex("30: needle 3", () -> x.ifSunk(3, 0, 0, 0));
        Check.noIndex("30: sample -1", () -> x.ifSunk(0, -1, 100, 5));
        Check.noIndex("30: sample 1", () -> x.ifSunk(0, 1, 0, 0));
        Check.noArgument("30: weight 49", () -> x.ifSunk(0, 0, 49, 5));
        Check.noArgument("30: weight 201", () -> x.ifSunk(0, 0, 201, 5));
        Check.noArgument("30: seconds 0", () -> x.ifSunk(0, 0, 100, 0));
        Check.noArgument("30: seconds 61", () -> x.ifSunk(0, 0, 100, 61));
        Check.equal("30: in no bath", x.ifSunk(0, 0, 100, 5), 26);
        Check.equal("30: 90 percent of 58", x.ifSunk(0, 0, 200, 5), 52);
        Check.equal("30: the least load", x.ifSunk(0, 0, 50, 1), 1);
        Check.equal("30: the greatest load", x.ifSunk(0, 0, 200, 60), 400);
        BitumenNeedle y = NeedlesTest.warmed(20, 1);
        y.sink(0, 0, 100, 1);
        y.sink(0, 0, 50, 1);
        Check.equal("30: bent, with wear 2", y.ifSunk(0, 0, 100, 5), 7);
        Check.equal("30: never below 0", y.ifSunk(0, 0, 50, 1), 0);
        Check.equal("30: no wear of the other", y.ifSunk(1, 0, 100, 5), 9);
    }

    private static void promise31() {
        BitumenNeedle x = NeedlesTest.warmed(100, 1);
        Check.noIndex("31: needle -1", () -> x.secondsTo(-1, 0, 100, 5));
        Check.noIndex("31: needle 3", () -> x.secondsTo(3, 0, 0, 0));
        Check.noIndex("31: sample 1", () -> x.secondsTo(0, 1, 0, 0));
        Check.noArgument("31: weight 49", () -> x.secondsTo(0, 0, 49, 5));
        Check.noArgument("31: weight 201", () -> x.secondsTo(0, 0, 201, 5));
        Check.noArgument("31: depth 0", () -> x.secondsTo(0, 0, 100, 0));
        Check.noArgument("31: depth 401", () -> x.secondsTo(0, 0, 100, 401));
        Check.equal("31: 1 by one second", x.secondsTo(0, 0, 100, 1), 1);
        Check.equal("31: 9 by one second", x.secondsTo(0, 0, 100, 9), 1);
        Check.equal("31: 10 by two", x.secondsTo(0, 0, 100, 10), 2);
        Check.equal("31: 18 by two", x.secondsTo(0, 0, 100, 18), 2);
        Check.equal("31: 272 by 60 of 50 grams", x.secondsTo(0, 0, 50, 272), 60);
        Check.equal("31: 273 not in 60", x.secondsTo(0, 0, 50, 273), -1);
        Check.equal("31: 400", x.secondsTo(0, 0, 200, 400), 22);
        x.sink(0, 0, 100, 5);
        Check.equal("31: with the wear", x.secondsTo(0, 0, 100, 9), 2);
        x.bath(0, -1);
        Check.equal("31: in no bath", x.secondsTo(0, 0, 100, 9), 2);
    }

    private static void promise32() {
        BitumenNeedle x = new BitumenNeedle();
        Check.noIndex("32: none", () -> x.readyIn(0));
        x.drum(60);
        x.sample(0);
        Check.noIndex("32: -1", () -> x.readyIn(-1));
        Check.equal("32: in no bath", x.readyIn(0), -1);
        x.bath(0, 1);
        // 212, 221, 228, 233, 237, 240, 242, 244, 245
        Check.equal("32: nine minutes", x.readyIn(0), 9);
        x.set(0, 6);
        Check.equal("32: to 244", x.readyIn(0), 8);
        x.set(0, 0);
        Check.equal("32: to the degree itself", x.readyIn(0), 14);
        x.pass(13);
        Check.equal("32: one left", x.readyIn(0), 1);
        x.pass(1);
        Check.equal("32: now", x.readyIn(0), 0);
        x.warm(1, 240);
        // 247, 245, 243, 242, 241, 240
        Check.equal("32: colder", x.readyIn(0), 6);
        x.set(0, 50);
        Check.equal("32: near enough", x.readyIn(0), 0);
        x.warm(1, 200);
        Check.equal("32: by just 50", x.readyIn(0), 0);
        x.warm(1, 199);
        Check.equal("32: by 51", x.readyIn(0), 1);
    }

    private static void promise33() {
        BitumenNeedle x = new BitumenNeedle();
        Check.noIndex("33: none", () -> x.bestBath(0));
        x.drum(60);
        for (int sample = 0; sample < 5; sample++) {
            x.sample(0);
        }
        Check.noIndex("33: 5", () -> x.bestBath(5));
        Check.noIndex("33: -1", () -> x.bestBath(-1));
        // Down to 155: 187, 177, 170, 165, 161, 158, 156, 154: eight minutes; up to 245: nine.
        Check.equal("33: the first", x.bestBath(0), 0);
        x.bath(0, 0);
        x.bath(1, 0);
        x.bath(2, 0);
        Check.equal("33: the first is full", x.bestBath(3), 1);
        Check.equal("33: but not for those in it", x.bestBath(1), 0);
        x.warm(2, 250);
        Check.equal("33: of several the lowest", x.bestBath(3), 1);
        x.warm(1, 260);
        Check.equal("33: the last", x.bestBath(3), 2);
        x.warm(2, 200);
        Check.equal("33: at once", x.bestBath(3), 2);
        Check.equal("33: better than its own", x.bestBath(0), 2);
        x.warm(0, 205);
        Check.equal("33: at once in its own", x.bestBath(0), 0);
        x.set(0, 4);
        Check.equal("33: not so near", x.bestBath(0), 2);
    }

    private static void promise34() {
        BitumenNeedle x = new BitumenNeedle();
        Check.that("34: without samples", x.readShare() == 1.0);
        x = NeedlesTest.warmed(100, 3);
        Check.that("34: none of 3", x.readShare() == 0.0);
        for (int i = 0; i < 3; i++) {
            x.sink(0, 1, 100, 5);
        }
        Check.that("34: 1 of 3", x.readShare() == 1.0 / 3.0);
        x.toss(0);
        Check.that("34: 1 of 2", x.readShare() == 0.5);
        x.toss(1);
        Check.that("34: 1 of 1", x.readShare() == 1.0);
    }

    private static void promise35() {
        BitumenNeedle x = new BitumenNeedle();
        Check.equal("35: a new object", x.digest(), new Model().digest());
        long[] values = {0, 0, 0, 0, 0, 0, 0, 0, 5, 12, 8, 0, 0, 0, 0, 0, 0, 0, 0, 0, 0,
            150, 0, -1, 250, 0, -1, 350, 0, -1, -1, -1, 0x3ff0000000000000L, 2, 's', '~'};
        long hash = 3767;
        for (long value : values) {
            hash = 31 * hash + value;
        }
        x.append('s');
        x.append('~');
        Check.equal("35: with a buffer", x.digest(), hash);
        long other = x.digest();
        x.pass(1);
        Check.that("35: another state", x.digest() != other);
    }

    /** The share's bits, for each share that 8 samples can have. */
    private static void promise35Shares() {
        for (int samples = 1; samples <= 8; samples++) {
            BitumenNeedle x = NeedlesTest.warmed(100, samples);
            Model model = new Model();
            model.drum(100);
            for (int sample = 0; sample < samples; sample++) {
                model.sample(0);
                model.warm(sample / 3, 250);
                model.bath(sample, sample / 3);
            }
            model.pass(60);
            for (int sink = 0; sink < samples * 3; sink++) {
                x.sink(sink % 3, sink / 3, 100, 5);
                model.sink(sink % 3, sink / 3, 100, 5);
                Check.equal("35: digest, " + sink + " of " + samples, x.digest(), model.digest());
            }
        }
    }
}
