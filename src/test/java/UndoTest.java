/** Promises 19 to 21: undo, the snapshot. */
final class UndoTest {
    private UndoTest() {
    }

    public static void main(String[] args) {
        promise19();
        promise19Whole();
        promise19Unchanged();
        promise20();
        promise21();
        Check.finish("UndoTest");
    }

    private static void promise19() {
        BitumenNeedle x = new BitumenNeedle();
        Check.noState("19: none", x::undo);
        for (int i = 0; i < 9; i++) {
            x.pass(i + 1);
        }
        Check.equal("19: at most 6", x.count(11), 6);
        int minutes = 45;
        for (int left = 5; left >= 0; left--) {
            Check.equal("19: left", x.undo(), left);
            minutes -= left + 4;
            Check.equal("19: minutes", x.count(5), minutes);
        }
        Check.noState("19: the oldest are dropped", x::undo);
        Check.equal("19: the oldest that was saved", x.count(5), 6);
        x.pass(1);
        x.pass(1);
        x.undo();
        x.pass(10);
        Check.equal("19: behind undo it goes on", x.count(5), 17);
        Check.equal("19: one left", x.undo(), 1);
        Check.equal("19: the latest", x.count(5), 7);
    }

    /** Each undoable call is undone wholly: the digest is as it was before. */
    private static void promise19Whole() {
        BitumenNeedle x = NeedlesTest.warmed(100, 4);
        for (int i = 0; i < 3; i++) {
            x.sink(0, 0, 100, 5);
            x.sink(1, 1, 100, 5);
        }
        x.bath(3, -1);
        x.ring(3);
        x.keep();
        while (x.count(11) > 0) {
            x.undo();
        }
        x.restore();
        x.undo();
        x.restore();
        Check.Call[] calls = {() -> x.drum(70), () -> x.age(9), () -> x.sample(0), () -> x.toss(1),
            () -> x.bath(0, 2), () -> x.bath(0, -1), () -> x.warm(1, 1), () -> x.pass(3),
            () -> x.sink(2, 2, 60, 6), () -> x.renew(0), () -> x.ring(3), () -> x.sell(0), () -> x.set(1, 0),
            x::restore, () -> TextsTest.type(x, "s0;s5").obey()};
        for (int i = 0; i < calls.length; i++) {
            x.clearBuffer();
            long before = x.digest();
            int saved = x.count(11);
            calls[i].ask();
            Check.equal("19: saved by call " + i, x.count(11), saved + 1);
            Check.that("19: digest changes by call " + i, x.digest() != before);
            Check.equal("19: undo behind call " + i, x.undo(), saved);
            Check.equal("19: digest behind undo of call " + i, x.digest(), before);
        }
    }

    /** Calls that are not undoable, and those that throw, save nothing. */
    private static void promise19Unchanged() {
        BitumenNeedle x = NeedlesTest.warmed(100, 3);
        int saved = x.count(11);
        x.undo();
        x.undo();
        saved -= 2;
        x.keep();
        x.append('s');
        x.clearBuffer();
        x.firstError();
        Check.equal("19: not undoable", x.count(11), saved);
        long before = x.digest();
        Check.noArgument("19: drum", () -> x.drum(0));
        Check.noArgument("19: age", () -> x.age(0));
        Check.noIndex("19: sample", () -> x.sample(6));
        Check.noIndex("19: toss", () -> x.toss(6));
        Check.noIndex("19: bath", () -> x.bath(6, 0));
        Check.noArgument("19: warm", () -> x.warm(0, -1));
        Check.noArgument("19: pass", () -> x.pass(0));
        Check.noState("19: sink", () -> x.sink(0, 2, 100, 5));
        Check.noIndex("19: renew", () -> x.renew(3));
        Check.noIndex("19: ring", () -> x.ring(9));
        Check.noState("19: sell", () -> x.sell(0));
        Check.noArgument("19: set", () -> x.set(0, 51));
        Check.noArgument("19: obey", x::obey);
        Check.equal("19: nothing changed", x.digest(), before);
    }

    private static void promise20() {
        BitumenNeedle x = new BitumenNeedle();
        Check.equal("20: without samples", x.keep(), 0);
        Check.equal("20: not undoable", x.count(11), 0);
        x.drum(100);
        x.sample(0);
        x.sample(0);
        Check.equal("20: two", x.keep(), 2);
        x.toss(0);
        x.toss(0);
        Check.equal("20: the later snapshot counts", x.restore(), 2);
        x.undo();
        x.undo();
        x.undo();
        Check.equal("20: undo does not touch the snapshot", x.restore(), 2);
    }

    private static void promise21() {
        BitumenNeedle x = new BitumenNeedle();
        x.drum(100);
        Check.noState("21: no snapshot", x::restore);
        Check.equal("21: nothing saved", x.count(11), 1);
        x.sample(0);
        x.bath(0, 1);
        x.keep();
        x.pass(60);
        x.sink(1, 0, 100, 5);
        x.set(0, 50);
        x.age(20);
        x.warm(2, 7);
        x.renew(2);
        Check.equal("21: samples", x.restore(), 1);
        Check.equal("21: minutes", x.count(5), 0);
        Check.equal("21: degree", x.sampleOf(0, 2), 200);
        Check.equal("21: readings", x.count(2), 0);
        Check.equal("21: needle", x.needle(1, 0), 0);
        Check.equal("21: setting", x.count(8), 5);
        Check.equal("21: age", x.drumOf(0, 1), 0);
        Check.equal("21: bath", x.bathOf(2, 0), 350);
        Check.equal("21: renewed", x.count(7), 0);
        Check.equal("21: saved states stay, one more", x.count(11), 6);
        Check.equal("21: undoable", x.undo(), 5);
        Check.equal("21: as before it", x.count(2), 1);
        Check.equal("21: renewed again", x.count(7), 1);
        x.restore();
        x.pass(9);
        Check.equal("21: it stays", x.restore(), 1);
        Check.equal("21: as it was taken", x.count(5), 0);
        x.sample(0);
        Check.equal("21: taken once more", x.restore(), 1);
    }
}
