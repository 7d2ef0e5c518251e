/** Promises 22 to 27: looks. */
final class LooksTest {
    private LooksTest() {
    }

    public static void main(String[] args) {
        promise22();
        promise22Means();
        promise23();
        promise23Penetration();
        promise24();
        promise25();
        promise26();
        promise27();
        nothingChanges();
        Check.finish("LooksTest");
    }

    private static void drumIs(BitumenNeedle x, int drum, int... due) {
        for (int what = 0; what < due.length; what++) {
            Check.equal("22: drumOf(" + drum + ", " + what + ")", x.drumOf(drum, what), due[what]);
        }
    }

    private static void sampleIs(BitumenNeedle x, int sample, int... due) {
        for (int what = 0; what < due.length; what++) {
            Check.equal("23: sampleOf(" + sample + ", " + what + ")", x.sampleOf(sample, what), due[what]);
        }
    }

    private static void promise22() {
        BitumenNeedle x = new BitumenNeedle();
        Check.noIndex("22: none", () -> x.drumOf(0, 0));
        x.drum(300);
        x.drum(33);
        Check.noIndex("22: -1", () -> x.drumOf(-1, 0));
        Check.noIndex("22: 2", () -> x.drumOf(2, 9));
        Check.noArgument("22: what -1", () -> x.drumOf(0, -1));
        Check.noArgument("22: what 9", () -> x.drumOf(0, 9));
        drumIs(x, 0, 300, 0, 3, 0, -1, -1, -1, -1, -1);
        x.age(25);
        x.sample(1);
        x.sample(1);
        drumIs(x, 1, 33, 25, 32, 2, -1, -1, -1, -1, -1);
        x.ring(0);
        drumIs(x, 1, 33, 25, 32, 2, -1, 684, -1, -1, -1);
        x.ring(1);
        x.toss(0);
        drumIs(x, 1, 33, 25, 32, 1, -1, 684, -1, -1, -1);
        drumIs(x, 0, 300, 25, 5, 0, -1, -1, -1, -1, -1);
    }

    /** Three samples with a penetration, one of them with a softening, and a sample of another drum beside them. */
    private static void promise22Means() {
        BitumenNeedle x = NeedlesTest.warmed(100, 3);
        x.drum(20);
        x.sample(1);
        x.ring(3);
        int[] needles = {0, 0, 0, 0, 0, 0, 1, 1, 1};
        for (int i = 0; i < 9; i++) {
            x.sink(needles[i], i / 3, 100, 5);
        }
        sampleIs(x, 0, 0, 10, 250, 0, 3, 44, 0, -1, 1);
        sampleIs(x, 1, 0, 10, 250, 0, 3, 41, 0, -1, 1);
        sampleIs(x, 2, 0, 10, 250, 0, 3, 44, 0, -1, 2);
        drumIs(x, 0, 100, 0, 10, 3, 43, -1, -1, -1, -1);
        x.bath(0, -1);
        x.ring(0);
        drumIs(x, 0, 100, 0, 10, 3, 43, 405, 991, 991, -1);
        x.bath(1, -1);
        x.sink(2, 2, 60, 5);
        x.bath(2, -1);
        x.ring(2);
        drumIs(x, 0, 100, 0, 10, 3, 42, 402, 991, 991, -1);
        x.age(90);
        x.sample(0);
        x.ring(4);
        Check.equal("22: a softening of 300 + 12 * 19", x.sampleOf(4, 7), 528);
        drumIs(x, 0, 100, 90, 19, 4, 42, 444, 995, 995, -1);
        drumIs(x, 1, 20, 90, 59, 1, -1, 900, -1, -1, -1);
        x.set(2, 60);
        drumIs(x, 0, 100, 90, 19, 4, 42, 444, 943, 943, -1);
    }

    private static void promise23() {
        BitumenNeedle x = new BitumenNeedle();
        Check.noIndex("23: none", () -> x.sampleOf(0, 0));
        x.drum(20);
        x.drum(40);
        x.sample(1);
        Check.noIndex("23: -1", () -> x.sampleOf(-1, 0));
        Check.noIndex("23: 1", () -> x.sampleOf(1, 9));
        Check.noArgument("23: what -1", () -> x.sampleOf(0, -1));
        Check.noArgument("23: what 9", () -> x.sampleOf(0, 9));
        sampleIs(x, 0, 1, 25, 200, -1, 0, -1, 5, -1, 0);
        x.ring(0);
        x.bath(0, 2);
        x.pass(1);
        sampleIs(x, 0, 1, 25, 237, 2, 0, -1, 5, 600, 0);
        x.pass(60);
        x.sink(2, 0, 100, 5);
        sampleIs(x, 0, 1, 25, 350, 2, 1, -1, 5, 600, 4);
        x.sink(0, 0, 100, 5);
        sampleIs(x, 0, 1, 25, 350, 2, 2, -1, 5, 600, 5);
        x.sink(0, 0, 100, 5);
        sampleIs(x, 0, 1, 25, 350, 2, 3, 21, 0, 600, 5);
        x.sink(1, 0, 100, 5);
        sampleIs(x, 0, 1, 25, 350, 2, 4, 21, 0, 600, 3);
    }

    private static void promise23Penetration() {
        BitumenNeedle x = NeedlesTest.warmed(300, 2);
        x.sink(0, 0, 100, 5);
        x.sink(0, 0, 100, 5);
        x.sink(0, 0, 100, 6);
        Check.equal("23: other seconds", x.sampleOf(0, 6), 6);
        Check.equal("23: none then", x.sampleOf(0, 5), -1);
        x.sink(0, 0, 101, 5);
        x.sink(0, 0, 100, 5);
        x.sink(0, 0, 100, 5);
        Check.equal("23: other weight", x.sampleOf(0, 6), 6);
        x.sink(0, 0, 100, 5);
        Check.equal("23: all of 125", x.sampleOf(0, 5), 125);
        x.warm(0, 350);
        x.pass(60);
        x.sink(0, 0, 100, 5);
        Check.equal("23: 125, 125, 150 lie apart", x.sampleOf(0, 6), 7);
        Check.equal("23: none, apart", x.sampleOf(0, 5), -1);
        x.set(1, 24);
        Check.equal("23: by 25, more than 24", x.sampleOf(0, 6), 7);
        x.set(1, 25);
        Check.equal("23: by 25, at most 25", x.sampleOf(0, 6), 0);
        Check.equal("23: 400 / 3", x.sampleOf(0, 5), 133);
        x.set(1, 0);
        x.sink(0, 0, 60, 5);
        Check.equal("23: the weight comes before", x.sampleOf(0, 6), 6);
        Check.equal("23: the other sample has none", x.sampleOf(1, 6), 5);
    }

    private static void promise24() {
        BitumenNeedle x = NeedlesTest.warmed(100, 2);
        x.sink(2, 1, 150, 9);
        x.sink(1, 1, 51, 10);
        Check.noIndex("24: -1", () -> x.reading(-1, 0, 0));
        Check.noIndex("24: 2", () -> x.reading(2, -1, 4));
        Check.noArgument("24: reading -1", () -> x.reading(0, -1, 0));
        Check.noArgument("24: what -1", () -> x.reading(0, 0, -1));
        Check.noArgument("24: what 4", () -> x.reading(1, 0, 4));
        Check.noArgument("24: what 4 of a reading that is not there", () -> x.reading(1, 9, 4));
        int[][] due = {{2, 122, 150, 9}, {1, 46, 51, 10}, {-1, -1, -1, -1}};
        for (int reading = 0; reading < 3; reading++) {
            for (int what = 0; what < 4; what++) {
                Check.equal("24: reading", x.reading(1, reading, what), due[reading][what]);
                Check.equal("24: of the other", x.reading(0, reading, what), -1);
            }
        }
        Check.equal("24: far", x.reading(1, Integer.MAX_VALUE, 3), -1);
        Check.equal("24: far, in multiples", x.reading(1, 1 << 30, 0), -1);
    }

    private static void promise25() {
        BitumenNeedle x = NeedlesTest.warmed(20, 1);
        Check.noIndex("25: -1", () -> x.needle(-1, 0));
        Check.noIndex("25: 3", () -> x.needle(3, 3));
        Check.noArgument("25: what -1", () -> x.needle(0, -1));
        Check.noArgument("25: what 3", () -> x.needle(2, 3));
        x.sink(1, 0, 100, 5);
        x.sink(1, 0, 50, 1);
        Check.equal("25: wear", x.needle(1, 0), 2);
        Check.equal("25: bent", x.needle(1, 1), 1);
        Check.equal("25: readings", x.needle(1, 2), 2);
        x.renew(1);
        x.sink(1, 0, 100, 5);
        Check.equal("25: readings of both", x.needle(1, 2), 3);
        Check.equal("25: not bent", x.needle(1, 1), 0);
        x.toss(0);
        Check.equal("25: readings of a sample thrown away", x.needle(1, 2), 3);
        Check.equal("25: others", x.needle(0, 2) + x.needle(2, 2), 0);
    }

    private static void promise26() {
        BitumenNeedle x = new BitumenNeedle();
        Check.noIndex("26: -1", () -> x.bathOf(-1, 0));
        Check.noIndex("26: 3", () -> x.bathOf(3, 3));
        Check.noArgument("26: what -1", () -> x.bathOf(0, -1));
        Check.noArgument("26: what 3", () -> x.bathOf(2, 3));
        x.drum(60);
        x.sample(0);
        x.sample(0);
        x.sample(0);
        Check.equal("26: a sample in no bath", x.bathOf(0, 2), -1);
        x.bath(0, 2);
        Check.equal("26: one", x.bathOf(2, 1), 1);
        Check.equal("26: warmer", x.bathOf(2, 2), 150);
        x.pass(60);
        Check.equal("26: the same", x.bathOf(2, 2), 0);
        x.bath(1, 2);
        Check.equal("26: two", x.bathOf(2, 1), 2);
        Check.equal("26: the greatest", x.bathOf(2, 2), 150);
        x.warm(2, 225);
        Check.equal("26: degree", x.bathOf(2, 0), 225);
        Check.equal("26: colder, the greatest", x.bathOf(2, 2), 125);
        x.bath(0, 1);
        Check.equal("26: the other", x.bathOf(2, 2), 25);
        Check.equal("26: where it went", x.bathOf(1, 2), 100);
    }

    private static void promise27() {
        BitumenNeedle x = NeedlesTest.warmed(20, 3);
        Check.noArgument("27: -1", () -> x.count(-1));
        Check.noArgument("27: 12", () -> x.count(12));
        x.drum(300);
        x.set(0, 1);
        x.set(1, 2);
        x.set(2, 3);
        x.sink(0, 0, 100, 50);
        for (int i = 0; i < 3; i++) {
            x.sink(1, 1, 100, 5);
            x.sink(2, 2, 100, 5);
        }
        x.sink(2, 0, 50, 1);
        x.toss(0);
        x.renew(0);
        int[] due = {2, 2, 8, 1, 0, 60, 2, 1, 1, 2, 3, 6};
        for (int what = 0; what < due.length; what++) {
            Check.equal("27: count " + what, x.count(what), due[what]);
        }
        x.set(1, 0);
        Check.equal("27: penetrations by the setting", x.count(6), 0);
    }

    private static void nothingChanges() {
        BitumenNeedle x = NeedlesTest.warmed(20, 1);
        long before = x.digest();
        x.drumOf(0, 6);
        x.sampleOf(0, 5);
        x.reading(0, 0, 0);
        x.needle(0, 0);
        x.bathOf(0, 2);
        x.count(6);
        x.noSink(0, 0);
        x.noSale(0);
        x.ifSunk(0, 0, 100, 5);
        x.secondsTo(0, 0, 100, 5);
        x.readyIn(0);
        x.bestBath(0);
        x.readShare();
        Check.equal("looks change nothing", x.digest(), before);
    }
}
