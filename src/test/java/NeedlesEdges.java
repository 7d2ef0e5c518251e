/** Promises 9 to 13 at their boundaries. EdgesTest runs it. */
final class NeedlesEdges {
    private static final int LEAST = Integer.MIN_VALUE;
    private static final int MOST = Integer.MAX_VALUE;

    private NeedlesEdges() {
    }

    static void run() {
        promise9();
        promise9Returns();
        promise9Refused();
        promise10();
        promise11();
        promise12();
        promise12Refused();
        promise13();
    }

    private static void promise9() {
        Edge.says(9, "Lets a needle sink.");
        BitumenNeedle x = Edge.warmed(100, 2);
        x.sink(1, 1, 100, 5);
        Edge.is("readings of the sample", x.sampleOf(1, 4), 1);
        Edge.is("readings of the other sample", x.sampleOf(0, 4), 0);
        Edge.is("readings so far", x.count(2), 1);
        Edge.is("readings with the needle", x.needle(1, 2), 1);
        Edge.is("readings with another needle", x.needle(0, 2), 0);
        Edge.is("wear of the needle", x.needle(1, 0), 1);
        Edge.says(9, "Undoable.");
        BitumenNeedle y = Edge.oneSaved(x);
        Edge.undoable(y, "sink(0, 0, 100, 5)", () -> y.sink(0, 0, 100, 5));
        Edge.undoable(y, "sink(1, 1, 200, 60)", () -> y.sink(1, 1, 200, 60));
        BitumenNeedle z = Edge.oneSaved(Edge.warmed(20, 1));
        Edge.undoable(z, "a sink of the depth 0", () -> z.sink(2, 0, 50, 1));
        Edge.is("the needle behind undo", z.needle(2, 1), 0);
        Edge.says(9, "- `needle`: 0 to 2");
        for (int needle = 0; needle < 3; needle++) {
            y.sink(needle, 0, 100, 5);
            Edge.is("the needle of the reading", y.reading(0, needle, 0), needle);
        }
        Edge.says(9, "- `sample`: its number");
        BitumenNeedle w = Edge.warmed(300, 8);
        Edge.is("the first", w.sink(0, 0, 100, 5), 125);
        Edge.is("the last", w.sink(0, 7, 100, 5), 125);
        Edge.is("readings of the first", w.sampleOf(0, 4), 1);
        Edge.is("readings of the last", w.sampleOf(7, 4), 1);
        Edge.says(9, "- `weight`: 50 to 200");
        Edge.is("50 grams", w.sink(0, 1, 50, 20), 250);
        Edge.is("200 grams", w.sink(0, 1, 200, 7), 350);
        Edge.is("the weight of the first", w.reading(1, 0, 2), 50);
        Edge.is("the weight of the second", w.reading(1, 1, 2), 200);
        Edge.says(9, "- `seconds`: 1 to 60");
        Edge.is("1 second", w.sink(0, 2, 200, 1), 50);
        Edge.is("26 seconds", w.sink(0, 2, 60, 26), 390);
        Edge.is("60 seconds", w.sink(0, 2, 50, 60), 400);
        Edge.is("the seconds of the first", w.reading(2, 0, 3), 1);
        Edge.is("the seconds of the last", w.reading(2, 2, 3), 60);
    }

    private static void promise9Returns() {
        Edge.says(9, "Returns the depth.");
        BitumenNeedle x = Edge.warmed(100, 1);
        Edge.is("a new needle", x.sink(0, 0, 100, 5), 45);
        Edge.is("as the reading tells", x.reading(0, 0, 1), 45);
        Edge.is("with wear 1", x.sink(0, 0, 100, 5), 44);
        Edge.is("the deepest", x.sink(0, 0, 200, 60), 400);
        Edge.is("with wear 2", x.sink(0, 0, 50, 1), 2);
        Edge.is("with wear 3", x.sink(0, 0, 50, 1), 1);
        Edge.is("with wear 4", x.sink(0, 0, 50, 1), 0);
        Edge.is("as the reading tells", x.reading(0, 5, 1), 0);
    }

    private static void promise9Refused() {
        Edge.says(9, "Throws `IndexOutOfBoundsException` if there is no such needle or sample");
        BitumenNeedle x = Edge.warmed(100, 2);
        for (int needle : new int[] {-1, 3, LEAST, MOST}) {
            Edge.noIndex(x, "needle " + needle, () -> x.sink(needle, 0, 100, 5));
            Edge.noIndex(x, "needle " + needle + " with 0 grams", () -> x.sink(needle, 0, 0, 5));
        }
        for (int sample : new int[] {-1, 2, 8, LEAST, MOST}) {
            Edge.noIndex(x, "sample " + sample, () -> x.sink(0, sample, 100, 5));
            Edge.noIndex(x, "sample " + sample + " and 0 seconds", () -> x.sink(0, sample, 100, 0));
        }
        Edge.says(9, "Throws `IllegalArgumentException` if weight or seconds is out of range");
        BitumenNeedle away = Edge.samples(100, 1);
        for (int weight : new int[] {49, 201, 0, -100, LEAST, MOST}) {
            Edge.noArgument(x, weight + " grams", () -> x.sink(0, 0, weight, 5));
            Edge.noArgument(away, weight + " grams in no bath", () -> away.sink(0, 0, weight, 5));
        }
        for (int seconds : new int[] {0, 61, -5, LEAST, MOST}) {
            Edge.noArgument(x, seconds + " seconds", () -> x.sink(0, 0, 100, seconds));
            Edge.noArgument(away, seconds + " seconds in no bath", () -> away.sink(0, 0, 100, seconds));
        }
        Edge.says(9, "Throws `IllegalStateException` if it cannot sink");
        Edge.noState(away, "in no bath", () -> away.sink(0, 0, 100, 5));
        away.bath(0, 1);
        Edge.noState(away, "too cold", () -> away.sink(0, 0, 100, 5));
        away.pass(8);
        Edge.noState(away, "6 too cold", () -> away.sink(0, 0, 100, 5));
        away.pass(1);
        Edge.is("5 too cold", away.sink(0, 0, 100, 5), 44);
        away.warm(1, 239);
        Edge.noState(away, "6 too warm", () -> away.sink(0, 0, 100, 5));
        away.warm(1, 240);
        Edge.is("5 too warm", away.sink(1, 0, 100, 5), 44);
        Edge.sink(x, 9, 0, 0);
        Edge.noState(x, "9 readings", () -> x.sink(1, 0, 100, 5));
        x.sink(2, 1, 50, 1);
        for (int time = 0; time < 4; time++) {
            x.sink(2, 1, 50, 1);
        }
        Edge.is("bent", x.needle(2, 1), 1);
        Edge.noState(x, "a bent needle", () -> x.sink(2, 1, 200, 60));
        Edge.is("readings stay", x.sampleOf(1, 4), 5);
    }

    private static void promise10() {
        Edge.says(10, "Changes a needle for a new one.");
        BitumenNeedle x = Edge.warmed(20, 2);
        x.sink(1, 0, 100, 5);
        x.sink(1, 0, 50, 1);
        x.sink(2, 0, 100, 5);
        Edge.is("bent", x.needle(1, 1), 1);
        x.renew(1);
        Edge.is("its wear", x.needle(1, 0), 0);
        Edge.is("its bend", x.needle(1, 1), 0);
        Edge.is("readings with both", x.needle(1, 2), 2);
        Edge.is("wear of another", x.needle(2, 0), 1);
        Edge.is("needles renewed", x.count(7), 1);
        Edge.is("it sinks again", x.sink(1, 0, 100, 5), 9);
        Edge.says(10, "Undoable.");
        BitumenNeedle y = Edge.oneSaved(x);
        Edge.undoable(y, "renew(1)", () -> y.renew(1));
        Edge.undoable(y, "renew(0), a new one", () -> y.renew(0));
        Edge.says(10, "- `needle`: 0 to 2");
        y.renew(0);
        y.renew(2);
        Edge.is("wear of 2", y.needle(2, 0), 0);
        Edge.is("wear of 1", y.needle(1, 0), 1);
        Edge.says(10, "Returns the wear that the old one had.");
        Edge.is("of a new one", y.renew(0), 0);
        Edge.is("of one with wear 1", y.renew(1), 1);
        BitumenNeedle z = Edge.warmed(300, 3);
        for (int time = 0; time < 22; time++) {
            z.sink(0, time / 9, 100, 1);
        }
        Edge.is("of one with 22 readings", z.renew(0), 20);
        Edge.is("of the new one", z.renew(0), 0);
        Edge.says(10, "Throws `IndexOutOfBoundsException` if there is no such needle");
        for (int needle : new int[] {-1, 3, LEAST, MOST}) {
            Edge.noIndex(z, "renew(" + needle + ")", () -> z.renew(needle));
        }
    }

    private static void promise11() {
        Edge.says(11, "Warms the ring of a sample.");
        BitumenNeedle x = Edge.samples(100, 2);
        x.ring(1);
        Edge.is("its softening", x.sampleOf(1, 7), 420);
        Edge.is("the softening of the other", x.sampleOf(0, 7), -1);
        Edge.is("its readings", x.sampleOf(1, 4), 0);
        Edge.is("its degree", x.sampleOf(1, 2), 200);
        Edge.says(11, "Undoable.");
        BitumenNeedle y = Edge.oneSaved(x);
        Edge.undoable(y, "ring(0)", () -> y.ring(0));
        Edge.undoable(y, "ring(1), kept already", () -> y.ring(1));
        Edge.says(11, "- `sample`: its number");
        Edge.is("ring(0)", y.ring(0), 420);
        Edge.is("ring(1)", y.ring(1), 420);
        Edge.says(11, "Returns its softening.");
        BitumenNeedle z = Edge.warmed(300, 1);
        Edge.sink(z, 9, 0, 0);
        z.bath(0, -1);
        Edge.is("of hardness 3 with 9 readings", z.ring(0), 291);
        Edge.is("again", z.ring(0), 291);
        Edge.is("of hardness 50", Edge.samples(20, 1).ring(0), 900);
        Edge.says(11, "Throws `IndexOutOfBoundsException` if there is no such sample");
        BitumenNeedle none = new BitumenNeedle();
        Edge.noIndex(none, "ring(0) without samples", () -> none.ring(0));
        for (int sample : new int[] {-1, 2, 8, LEAST, MOST}) {
            Edge.noIndex(x, "ring(" + sample + ")", () -> x.ring(sample));
        }
        Edge.says(11, "Throws `IllegalStateException` if it is refused");
        z.bath(0, 0);
        Edge.noState(z, "ring(0) in a bath, kept already", () -> z.ring(0));
        x.undo();
        x.undo();
        Edge.is("not kept", x.sampleOf(0, 7), -1);
        x.bath(0, 2);
        Edge.noState(x, "ring(0) in a bath", () -> x.ring(0));
        x.bath(0, -1);
        Edge.is("ring(0) in no bath again", x.ring(0), 420);
    }

    private static void promise12() {
        Edge.says(12, "Sells a drum.");
        BitumenNeedle x = Edge.sellable(100);
        x.drum(100);
        x.sell(0);
        Edge.is("its class", x.drumOf(0, 8), 2);
        Edge.is("drums that are sold", x.count(4), 1);
        Edge.is("the class of another", x.drumOf(1, 8), -1);
        Edge.is("its samples", x.drumOf(0, 3), 2);
        Edge.says(12, "Undoable.");
        BitumenNeedle y = Edge.oneSaved(Edge.sellable(100));
        Edge.undoable(y, "sell(0)", () -> y.sell(0));
        Edge.is("behind undo it can be sold", y.sell(0), 2);
        Edge.says(12, "- `drum`: its number");
        BitumenNeedle z = Edge.drums(20, 20, 20, 20, 20, 100);
        Edge.type(z, "s5;s5;b01;b11;+60;n00*100/5;n00*100/5;n00*100/5").obey();
        Edge.type(z, "n11*100/5;n11*100/5;n11*100/5;b0-;o0").obey();
        for (int drum = 0; drum < 5; drum++) {
            int other = drum;
            Edge.noState(z, "sell(" + drum + ")", () -> z.sell(other));
        }
        Edge.is("sell(5), the last", z.sell(5), 2);
        Edge.is("its class", z.drumOf(5, 8), 2);
        Edge.is("the class of the first", z.drumOf(0, 8), -1);
        Edge.says(12, "Returns its class.");
        BitumenNeedle least = Edge.sellable(32);
        least.set(2, 10);
        Edge.is("14 by 20", least.sell(0), 0);
        Edge.is("a class 0 is sold, too", least.noSale(0), 15);
        Edge.is("drums that are sold", least.count(4), 1);
        BitumenNeedle most = Edge.warmed(300, 2);
        most.warm(0, 900);
        most.pass(99);
        Edge.sink(most, 3, 0, 0);
        Edge.sink(most, 3, 1, 1);
        most.bath(0, -1);
        most.ring(0);
        Edge.is("the index of 287 and 321", most.drumOf(0, 6), 1000 + 28 - 13 - 8);
        Edge.is("287 by 20", most.sell(0), 14);
    }

    private static void promise12Refused() {
        Edge.says(12, "Throws `IndexOutOfBoundsException` if there is no such drum");
        BitumenNeedle none = new BitumenNeedle();
        Edge.noIndex(none, "sell(0) without drums", () -> none.sell(0));
        BitumenNeedle x = Edge.sellable(100);
        for (int drum : new int[] {-1, 1, 6, LEAST, MOST}) {
            Edge.noIndex(x, "sell(" + drum + ")", () -> x.sell(drum));
        }
        Edge.says(12, "Throws `IllegalStateException` if it is sold already, or cannot be sold");
        BitumenNeedle few = Edge.warmed(100, 2);
        Edge.noState(few, "without a penetration", () -> few.sell(0));
        Edge.sink(few, 3, 0, 0);
        Edge.noState(few, "with one penetration", () -> few.sell(0));
        Edge.sink(few, 3, 0, 1);
        Edge.noState(few, "with one needle", () -> few.sell(0));
        Edge.sink(few, 1, 1, 1);
        Edge.noState(few, "without a softening", () -> few.sell(0));
        few.bath(1, -1);
        few.ring(1);
        few.set(2, 60);
        Edge.noState(few, "with a low index", () -> few.sell(0));
        few.set(2, 8);
        Edge.is("with a good index", few.sell(0), 2);
        Edge.noState(few, "sold already", () -> few.sell(0));
    }

    private static void promise13() {
        Edge.says(13, "Changes a setting.");
        BitumenNeedle x = new BitumenNeedle();
        x.set(1, 13);
        Edge.is("setting 0", x.count(8), 5);
        Edge.is("setting 1", x.count(9), 13);
        Edge.is("setting 2", x.count(10), 8);
        Edge.says(13, "Undoable.");
        Edge.undoable(x, "set(0, 50)", () -> x.set(0, 50));
        Edge.undoable(x, "set(1, 13), as it is", () -> x.set(1, 13));
        Edge.says(13, "- `setting`: 0 to 2");
        x.set(0, 1);
        x.set(2, 3);
        Edge.is("setting 0", x.count(8), 1);
        Edge.is("setting 2", x.count(10), 3);
        Edge.says(13, "- `value`: the new value");
        for (int setting = 0; setting < 3; setting++) {
            for (int value : new int[] {0, new int[] {50, 100, 60}[setting]}) {
                x.set(setting, value);
                Edge.is("set(" + setting + ", " + value + ")", x.count(8 + setting), value);
            }
        }
        Edge.says(13, "Returns the previous value.");
        Edge.is("set(0, 0)", x.set(0, 0), 50);
        Edge.is("set(0, 7)", x.set(0, 7), 0);
        Edge.is("set(0, 7) again", x.set(0, 7), 7);
        Edge.says(13, "Throws `IndexOutOfBoundsException` if there is no such setting");
        for (int setting : new int[] {-1, 3, LEAST, MOST}) {
            Edge.noIndex(x, "set(" + setting + ", 5)", () -> x.set(setting, 5));
            Edge.noIndex(x, "set(" + setting + ", -1)", () -> x.set(setting, -1));
        }
        Edge.says(13, "Throws `IllegalArgumentException` if value is out of range");
        for (int value : new int[] {-1, 101, LEAST, MOST}) {
            for (int setting = 0; setting < 3; setting++) {
                int at = setting;
                Edge.noArgument(x, "set(" + setting + ", " + value + ")", () -> x.set(at, value));
            }
        }
        Edge.noArgument(x, "set(0, 51)", () -> x.set(0, 51));
        Edge.noArgument(x, "set(2, 61)", () -> x.set(2, 61));
        Edge.is("set(1, 61)", x.set(1, 61), 100);
    }
}
