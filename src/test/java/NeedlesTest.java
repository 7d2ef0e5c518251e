/** Promises 9 to 13: needles, rings, selling, settings. */
final class NeedlesTest {
    private NeedlesTest() {
    }

    public static void main(String[] args) {
        promise9();
        promise9Reasons();
        promise9Depths();
        promise9Wear();
        promise10();
        promise11();
        promise12();
        promise12Classes();
        promise12Refusals();
        promise12Index();
        promise13();
        Check.finish("NeedlesTest");
    }

    /** A drum of that softness and so many samples of it, all at 250 in a bath of 250 degrees. */
    static BitumenNeedle warmed(int softness, int samples) {
        BitumenNeedle x = new BitumenNeedle();
        x.drum(softness);
        for (int sample = 0; sample < samples; sample++) {
            x.sample(0);
            x.warm(sample / 3, 250);
            x.bath(sample, sample / 3);
        }
        x.pass(60);
        return x;
    }

    private static void promise9() {
        BitumenNeedle x = warmed(100, 1);
        Check.noIndex("9: needle -1", () -> x.sink(-1, 0, 100, 5));
        Check.noIndex("9: needle 3", () -> x.sink(3, 0, 0, 0));
        Check.noIndex("9: sample -1", () -> x.sink(0, -1, 100, 5));
        Check.noIndex("9: sample 1", () -> x.sink(0, 1, 0, 0));
        Check.noArgument("9: weight 49", () -> x.sink(0, 0, 49, 5));
        Check.noArgument("9: weight 201", () -> x.sink(0, 0, 201, 5));
        Check.noArgument("9: seconds 0", () -> x.sink(0, 0, 100, 0));
        Check.noArgument("9: seconds 61", () -> x.sink(0, 0, 100, 61));
        int saved = x.count(11);
        Check.equal("9: 500 / 11", x.sink(2, 0, 100, 5), 45);
        Check.equal("9: saved", x.count(11), saved + 1);
        Check.equal("9: readings", x.count(2), 1);
        Check.equal("9: of the needle", x.needle(2, 2), 1);
        Check.equal("9: wear", x.needle(2, 0), 1);
        int[] due = {2, 45, 100, 5};
        for (int what = 0; what < 4; what++) {
            Check.equal("9: reading", x.reading(0, 0, what), due[what]);
        }
        Check.equal("9: 50 grams, 1 second, less the wear", x.sink(2, 0, 50, 1), 3);
        Check.equal("9: 200 grams, 60 seconds", x.sink(2, 0, 200, 60), 400);
        Check.equal("9: deep, so no wear", x.needle(2, 0), 2);
        x.undo();
        Check.equal("9: undone", x.sampleOf(0, 4), 2);
        Check.equal("9: undone for the needle", x.needle(2, 2), 2);
    }

    private static void promise9Reasons() {
        BitumenNeedle x = warmed(300, 1);
        for (int i = 0; i < 9; i++) {
            x.sink(0, 0, 100, 5);
        }
        Check.equal("9: nine readings", x.noSink(0, 0), 4);
        Check.noState("9: a tenth", () -> x.sink(0, 0, 100, 5));
        Check.noArgument("9: a tenth of 49 grams", () -> x.sink(0, 0, 49, 5));
        x.warm(0, 256);
        Check.equal("9: 6 beside", x.noSink(0, 0), 3);
        x.warm(0, 255);
        Check.equal("9: 5 beside", x.noSink(0, 0), 4);
        x.warm(0, 244);
        Check.equal("9: 6 below", x.noSink(0, 0), 3);
        x.warm(0, 245);
        Check.equal("9: 5 below", x.noSink(0, 0), 4);
        x.bath(0, -1);
        Check.equal("9: no bath comes before", x.noSink(0, 0), 2);
        Check.equal("9: so many readings stay", x.sampleOf(0, 4), 9);
        BitumenNeedle y = warmed(20, 2);
        Check.equal("9: 1000 / 51", y.sink(1, 0, 50, 20), 19);
        Check.equal("9: less than the wear", y.sink(1, 0, 50, 1), 0);
        Check.equal("9: bent", y.needle(1, 1), 1);
        y.bath(1, -1);
        Check.equal("9: bent comes first", y.noSink(1, 1), 1);
        Check.noState("9: a bent one", () -> y.sink(1, 0, 200, 60));
        Check.equal("9: another needle", y.noSink(0, 1), 2);
        Check.noState("9: in no bath", () -> y.sink(0, 1, 200, 60));
    }

    private static void promise9Depths() {
        int[][] dues = {{0, 50}, {4, 50}, {5, 51}, {9, 51}, {240, 98}, {244, 98}, {245, 99}, {249, 99}, {250, 100}, {254, 100},
            {255, 101}, {350, 120}, {900, 230}};
        for (int[] due : dues) {
            BitumenNeedle x = new BitumenNeedle();
            x.drum(100);
            x.sample(0);
            x.warm(0, due[0]);
            x.bath(0, 0);
            x.pass(99);
            Check.equal("9: percent at " + due[0], x.ifSunk(0, 0, 110, 10), due[1]);
            Check.equal("9: depth at " + due[0], x.sink(0, 0, 110, 10), due[1]);
        }
        BitumenNeedle x = warmed(100, 1);
        Check.equal("9: 399", x.ifSunk(0, 0, 88, 50), 400);
        Check.equal("9: 398", x.ifSunk(0, 0, 146, 30), 398);
        x.sink(0, 0, 50, 1);
        Check.equal("9: 400 and more, less the wear, is at most 400", x.ifSunk(0, 0, 200, 60), 400);
        Check.equal("9: just 400, less the wear", x.ifSunk(0, 0, 88, 50), 399);
    }

    private static void promise9Wear() {
        BitumenNeedle x = warmed(299, 3);
        Check.equal("9: 200 / 4, not below 50", x.sink(0, 0, 100, 2), 50);
        Check.equal("9: no wear", x.needle(0, 0), 0);
        Check.equal("9: 49", x.sink(0, 0, 66, 3), 49);
        Check.equal("9: wear 1", x.needle(0, 0), 1);
        for (int i = 2; i < 9; i++) {
            x.sink(0, 0, 100, 1);
        }
        for (int i = 0; i < 9; i++) {
            x.sink(0, 1, 100, 1);
        }
        Check.equal("9: wear 17", x.needle(0, 0), 17);
        for (int i = 0; i < 3; i++) {
            x.sink(0, 2, 100, 1);
        }
        Check.equal("9: wear 20", x.needle(0, 0), 20);
        Check.equal("9: with wear 20", x.sink(0, 2, 100, 1), 5);
        Check.equal("9: wear at most 20", x.needle(0, 0), 20);
        Check.equal("9: to the bend", x.sink(0, 2, 50, 1), 0);
        Check.equal("9: bent", x.needle(0, 1), 1);
        Check.equal("9: wear still 20", x.needle(0, 0), 20);
    }

    private static void promise10() {
        BitumenNeedle x = warmed(20, 1);
        Check.noIndex("10: -1", () -> x.renew(-1));
        Check.noIndex("10: 3", () -> x.renew(3));
        x.sink(2, 0, 100, 5);
        x.sink(2, 0, 50, 1);
        Check.equal("10: bent", x.count(3), 1);
        Check.equal("10: the old wear", x.renew(2), 2);
        Check.equal("10: new", x.needle(2, 0), 0);
        Check.equal("10: straight", x.needle(2, 1), 0);
        Check.equal("10: readings go on", x.needle(2, 2), 2);
        Check.equal("10: a new one again", x.renew(2), 0);
        Check.equal("10: so far", x.count(7), 2);
        Check.equal("10: others stay", x.renew(0), 0);
        x.undo();
        x.undo();
        x.undo();
        Check.equal("10: undone", x.needle(2, 1), 1);
        Check.equal("10: none so far", x.count(7), 0);
    }

    private static void promise11() {
        BitumenNeedle x = warmed(20, 2);
        Check.noIndex("11: -1", () -> x.ring(-1));
        Check.noIndex("11: 2", () -> x.ring(2));
        Check.noState("11: in a bath", () -> x.ring(0));
        x.sink(0, 0, 100, 20);
        x.sink(0, 0, 100, 20);
        x.bath(0, -1);
        Check.equal("11: 300 + 600 - 10", x.ring(0), 890);
        x.bath(0, 0);
        Check.noState("11: in a bath, kept already", () -> x.ring(0));
        x.pass(60);
        x.sink(0, 0, 100, 20);
        x.bath(0, -1);
        Check.equal("11: as it was asked first", x.ring(0), 890);
        Check.equal("11: sampleOf", x.sampleOf(0, 7), 890);
        x.undo();
        Check.equal("11: asking again is undoable", x.sampleOf(0, 7), 890);
        BitumenNeedle y = warmed(300, 1);
        for (int i = 0; i < 9; i++) {
            y.sink(0, 0, 100, 5);
        }
        y.bath(0, -1);
        Check.equal("11: 300 + 36 - 45", y.ring(0), 291);
        y.undo();
        Check.equal("11: undone", y.sampleOf(0, 7), -1);
    }

    /** Both samples of the drum read three times with these needles, and the ring of the first. */
    private static BitumenNeedle read(int softness, int firstNeedle, int secondNeedle) {
        BitumenNeedle x = warmed(softness, 2);
        for (int i = 0; i < 3; i++) {
            x.sink(firstNeedle, 0, 100, 5);
            x.sink(secondNeedle, 1, 100, 5);
        }
        x.bath(0, -1);
        x.ring(0);
        return x;
    }

    private static void promise12() {
        BitumenNeedle x = read(100, 0, 1);
        Check.noIndex("12: -1", () -> x.sell(-1));
        Check.noIndex("12: 1", () -> x.sell(1));
        Check.equal("12: mean of 45, 44, 43", x.drumOf(0, 4), 44);
        Check.equal("12: 300 + 120 - 15", x.drumOf(0, 5), 405);
        Check.equal("12: 4 - 5 - 8", x.drumOf(0, 6), 991);
        Check.equal("12: told again", x.drumOf(0, 7), 991);
        Check.equal("12: can", x.noSale(0), 0);
        Check.equal("12: class 44 / 20", x.sell(0), 2);
        Check.equal("12: class kept", x.drumOf(0, 8), 2);
        Check.equal("12: sold", x.count(4), 1);
        Check.equal("12: sold already", x.noSale(0), 15);
        Check.noState("12: once", () -> x.sell(0));
        x.toss(1);
        Check.equal("12: sold already comes first", x.noSale(0), 15);
        Check.equal("12: class as it was then", x.drumOf(0, 8), 2);
        Check.equal("12: samples of it can still be taken", x.sample(0), 1);
        x.bath(1, 0);
        x.pass(50);
        Check.equal("12: and read", x.sink(2, 1, 100, 5), 45);
        x.undo();
        x.undo();
        x.undo();
        x.undo();
        x.undo();
        Check.equal("12: still sold", x.noSale(0), 15);
        x.undo();
        Check.equal("12: undone", x.noSale(0), 0);
    }

    private static void promise12Classes() {
        BitumenNeedle x = read(300, 0, 1);
        Check.equal("12: class 125 / 20", x.sell(0), 6);
        BitumenNeedle y = warmed(64, 2);
        for (int i = 0; i < 6; i++) {
            y.sink(0, 0, 100, 5);
        }
        for (int i = 0; i < 3; i++) {
            y.sink(1, 1, 100, 5);
        }
        y.bath(0, -1);
        Check.equal("12: 300 + 180 - 30", y.ring(0), 450);
        Check.equal("12: 2 + 0 - 8", y.drumOf(0, 6), 994);
        Check.equal("12: the second way", y.drumOf(0, 7), 994);
        Check.equal("12: class 28 / 20", y.sell(0), 1);
        BitumenNeedle z = new BitumenNeedle();
        z.drum(100);
        TextsTest.type(z, "s0;s0;b01;b11;+60").obey();
        TextsTest.type(z, "n00*100/5;n00*100/5;n00*100/5;n11*100/5").obey();
        TextsTest.type(z, "n11*100/5;n11*100/5;b0-;o0;$0").obey();
        Check.equal("12: sold", z.drumOf(0, 8), 2);
        z.age(30);
        for (int i = 0; i < 5; i++) {
            z.undo();
        }
        z.drum(30);
        Check.equal("12: another drum with its number is not sold", z.drumOf(0, 8), -1);
        Check.equal("12: nor old", z.drumOf(0, 1), 0);
    }

    private static void promise12Refusals() {
        BitumenNeedle x = warmed(100, 3);
        for (int i = 0; i < 3; i++) {
            x.sink(0, 0, 100, 5);
        }
        Check.equal("12: one penetration", x.noSale(0), 9);
        Check.noState("12: of one sample", () -> x.sell(0));
        for (int i = 0; i < 3; i++) {
            x.sink(0, 1, 100, 5);
        }
        Check.equal("12: one needle", x.noSale(0), 10);
        Check.noState("12: of one needle", () -> x.sell(0));
        x.sink(1, 2, 100, 5);
        x.sink(1, 2, 100, 5);
        Check.equal("12: the second needle read a sample without a penetration", x.noSale(0), 10);
        x.sink(1, 1, 100, 5);
        Check.equal("12: 42, 41, 45 are near", x.sampleOf(1, 5), 41);
        Check.equal("12: no softening", x.noSale(0), 11);
        Check.noState("12: without a softening", () -> x.sell(0));
        x.bath(2, -1);
        x.ring(2);
        Check.equal("12: a softening of a sample without a penetration", x.noSale(0), 0);
        for (int i = 0; i < 3; i++) {
            x.sink(0, 1, 100, 5);
        }
        Check.equal("12: the other needle is not of the latest three", x.noSale(0), 10);
        x.toss(0);
        Check.equal("12: 9 comes before 10", x.noSale(0), 9);
    }

    private static void promise12Index() {
        BitumenNeedle x = read(100, 0, 2);
        x.set(2, 19);
        Check.equal("12: index -20", x.drumOf(0, 6), 980);
        Check.equal("12: -20 is in", x.noSale(0), 0);
        x.set(2, 20);
        Check.equal("12: index -21", x.drumOf(0, 6), 979);
        Check.equal("12: -21 is out", x.noSale(0), 12);
        Check.noState("12: out", () -> x.sell(0));
        BitumenNeedle y = read(32, 0, 2);
        Check.equal("12: 14, 13, 12", y.drumOf(0, 4), 14);
        Check.equal("12: 300 + 372 - 15", y.drumOf(0, 5), 657);
        y.set(2, 1);
        Check.equal("12: index 20", y.drumOf(0, 6), 1020);
        Check.equal("12: 20 is in", y.noSale(0), 0);
        y.set(2, 0);
        Check.equal("12: index 21", y.drumOf(0, 6), 1021);
        Check.equal("12: 21 is out", y.noSale(0), 12);
        y.set(2, 1);
        Check.equal("12: class 0", y.sell(0), 0);
        Check.equal("12: class 0 is sold", y.count(4), 1);
        Check.equal("12: class 0, sold already", y.noSale(0), 15);
    }

    private static void promise13() {
        BitumenNeedle x = new BitumenNeedle();
        Check.noIndex("13: -1", () -> x.set(-1, 5));
        Check.noIndex("13: 3", () -> x.set(3, -5));
        int[] first = {5, 12, 8};
        int[] most = {50, 100, 60};
        for (int i = 0; i < 3; i++) {
            int setting = i;
            Check.noArgument("13: -1", () -> x.set(setting, -1));
            Check.noArgument("13: above", () -> x.set(setting, most[setting] + 1));
            Check.equal("13: the first value", x.set(i, most[i]), first[i]);
            Check.equal("13: to 0", x.set(i, 0), most[i]);
            Check.equal("13: told", x.count(8 + i), 0);
        }
        Check.equal("13: saved", x.count(11), 6);
        x.undo();
        Check.equal("13: undone", x.count(10), 60);
    }
}
