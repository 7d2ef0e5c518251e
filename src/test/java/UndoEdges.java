/** Promises 19 to 21 at their boundaries. EdgesTest runs it. */
final class UndoEdges {
    private UndoEdges() {
    }

    static void run() {
        promise19();
        promise20();
        promise21();
        promise21Whole();
    }

    private static void promise19() {
        Edge.says(19, "Restores the latest saved state, and drops it.");
        BitumenNeedle x = Edge.drums(100);
        x.sample(0);
        x.undo();
        Edge.is("samples", x.count(1), 0);
        Edge.is("drums", x.count(0), 1);
        x.undo();
        Edge.is("drums behind the second", x.count(0), 0);
        x.pass(5);
        x.undo();
        Edge.is("minutes behind a third", x.count(5), 0);
        Edge.is("what was undone is not saved", x.count(11), 0);
        Edge.says(19, "Returns how many saved states are left.");
        BitumenNeedle y = new BitumenNeedle();
        y.pass(1);
        Edge.is("of one", y.undo(), 0);
        for (int call = 0; call < 6; call++) {
            y.pass(1);
        }
        Edge.is("of 6", y.undo(), 5);
        y.pass(1);
        y.pass(1);
        Edge.is("of 7, one of which was dropped", y.undo(), 5);
        Edge.is("of 5", y.undo(), 4);
        Edge.says(19, "Throws `IllegalStateException` if there is none");
        BitumenNeedle z = new BitumenNeedle();
        Edge.noState(z, "undo() of a new object", z::undo);
        z.keep();
        z.append('s');
        z.clearBuffer();
        Edge.noState(z, "undo() behind calls that are not undoable", z::undo);
        Edge.noArgument(z, "drum(0)", () -> z.drum(0));
        Edge.noState(z, "undo() behind a refused call", z::undo);
        for (int call = 0; call < 8; call++) {
            z.pass(1);
        }
        for (int call = 0; call < 6; call++) {
            z.undo();
        }
        Edge.noState(z, "undo() for the seventh time", z::undo);
        Edge.is("minutes", z.count(5), 2);
    }

    private static void promise20() {
        Edge.says(20, "Takes a snapshot, in place of the one before.");
        BitumenNeedle x = Edge.drums(100);
        x.keep();
        x.sample(0);
        x.keep();
        x.sample(0);
        x.restore();
        Edge.is("samples of the second snapshot", x.count(1), 1);
        Edge.is("keep() is not undoable", x.count(11), 4);
        x.undo();
        x.undo();
        x.undo();
        x.restore();
        Edge.is("undo leaves the snapshot", x.count(1), 1);
        Edge.says(20, "Returns how many samples there are.");
        BitumenNeedle y = new BitumenNeedle();
        Edge.is("of none", y.keep(), 0);
        y.drum(100);
        for (int sample = 1; sample <= 8; sample++) {
            y.sample(0);
            Edge.is("of " + sample, y.keep(), sample);
        }
        y.toss(0);
        Edge.is("behind toss", y.keep(), 7);
    }

    private static void promise21() {
        Edge.says(21, "Restores the state of the snapshot, which stays.");
        BitumenNeedle x = Edge.samples(100, 1);
        x.keep();
        x.toss(0);
        x.restore();
        Edge.is("samples", x.count(1), 1);
        x.ring(0);
        x.age(99);
        x.restore();
        Edge.is("the softening, at the second time", x.sampleOf(0, 7), -1);
        Edge.is("the age, at the second time", x.drumOf(0, 1), 0);
        BitumenNeedle other = Edge.drums(20);
        other.keep();
        other.undo();
        other.drum(300);
        other.restore();
        Edge.is("the softness, when another drum was there", other.drumOf(0, 0), 20);
        other.undo();
        Edge.is("the softness behind undo", other.drumOf(0, 0), 300);
        Edge.says(21, "Undoable.");
        BitumenNeedle y = Edge.samples(100, 2);
        y.keep();
        y.toss(0);
        Edge.undoable(y, "restore()", y::restore);
        Edge.is("samples behind undo", y.count(1), 1);
        BitumenNeedle z = new BitumenNeedle();
        z.keep();
        Edge.undoable(z, "restore() of what is there", z::restore);
        Edge.says(21, "Returns how many samples there are then.");
        Edge.is("of none", z.restore(), 0);
        z.drum(100);
        z.sample(0);
        Edge.is("of none, with one before", z.restore(), 0);
        Edge.is("of two, with one before", y.restore(), 2);
        y.toss(0);
        y.toss(0);
        Edge.is("of two, with none before", y.restore(), 2);
        for (int sample = 2; sample < 8; sample++) {
            y.sample(0);
        }
        y.keep();
        y.toss(3);
        Edge.is("of 8", y.restore(), 8);
        Edge.says(21, "Throws `IllegalStateException` if there is no snapshot");
        BitumenNeedle none = Edge.samples(100, 1);
        Edge.noState(none, "restore()", none::restore);
        none.undo();
        Edge.noState(none, "restore() behind undo", none::restore);
        none.keep();
        Edge.is("restore() behind keep", none.restore(), 0);
    }

    /** All that makes a state comes back; 6 states are saved before and behind, so that the digests can be the same. */
    private static void promise21Whole() {
        Edge.says(21, "Restores the state of the snapshot,");
        BitumenNeedle x = Edge.sellable(100);
        x.drum(20);
        Edge.type(x, "s1;s1;s5").obey();
        long before = x.digest();
        Edge.is("states saved before", x.count(11), 6);
        x.keep();
        x.sell(0);
        x.sink(2, 1, 50, 1);
        x.renew(0);
        x.renew(1);
        for (int each = 0; each < 3; each++) {
            x.set(each, 0);
            x.warm(each, 0);
        }
        x.age(99);
        x.pass(99);
        x.toss(0);
        x.drum(300);
        x.sample(2);
        x.ring(1);
        Edge.type(x, "b1-;o1").obey();
        x.restore();
        Edge.is("states saved behind", x.count(11), 6);
        Edge.is("the digest", x.digest(), before);
        Edge.is("undo", x.undo(), 5);
        Edge.is("behind undo, drums", x.count(0), 3);
        Edge.is("behind undo, the stop", x.stopped(0), -1);
    }
}
