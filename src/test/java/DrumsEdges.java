/** Promises 1 to 8 at their boundaries. EdgesTest runs it. */
final class DrumsEdges {
    private static final int LEAST = Integer.MIN_VALUE;
    private static final int MOST = Integer.MAX_VALUE;

    private DrumsEdges() {
    }

    static void run() {
        promise1();
        promise2();
        promise3();
        promise4();
        promise5();
        promise6();
        promise6Refused();
        promise7();
        promise8();
    }

    private static void promise1() {
        Edge.says(1, "Creates baths and needles as told above,");
        BitumenNeedle x = new BitumenNeedle();
        for (int each = 0; each < 3; each++) {
            Edge.is("degree of bath " + each, x.bathOf(each, 0), new int[] {150, 250, 350}[each]);
            Edge.is("samples in bath " + each, x.bathOf(each, 1), 0);
            for (int what = 0; what < 3; what++) {
                Edge.is("needle(" + each + ", " + what + ")", x.needle(each, what), 0);
            }
        }
        Edge.says(1, "without drums and a snapshot,");
        int[] counts = {0, 0, 0, 0, 0, 0, 0, 0, 5, 12, 8, 0};
        for (int what = 0; what < 12; what++) {
            Edge.is("count(" + what + ")", x.count(what), counts[what]);
        }
        Edge.noIndex(x, "drumOf(0, 0)", () -> x.drumOf(0, 0));
        Edge.noIndex(x, "sampleOf(0, 0)", () -> x.sampleOf(0, 0));
        Edge.noState(x, "restore()", x::restore);
        Edge.noState(x, "undo()", x::undo);
        Edge.is("stopped(0)", x.stopped(0), -1);
        Edge.is("stopped(1)", x.stopped(1), -1);
        Edge.says(1, "with an empty buffer.");
        Edge.is("firstError()", x.firstError(), 0);
        Edge.noArgument(x, "obey()", x::obey);
        Edge.is("clearBuffer()", x.clearBuffer(), 0);
        Edge.is("append('s')", x.append('s'), 1);
        Edge.is("clearBuffer() of another object", new BitumenNeedle().clearBuffer(), 0);
    }

    private static void promise2() {
        Edge.says(2, "Lets a drum come.");
        BitumenNeedle x = new BitumenNeedle();
        x.drum(120);
        Edge.is("count(0)", x.count(0), 1);
        int[] due = {120, 0, 8, 0, -1, -1, -1, -1, -1};
        for (int what = 0; what < 9; what++) {
            Edge.is("drumOf(0, " + what + ")", x.drumOf(0, what), due[what]);
        }
        BitumenNeedle again = new BitumenNeedle();
        again.keep();
        Edge.type(again, "s0").clearBuffer();
        again.drum(100);
        Edge.type(again, "s0;s0;b01;b11;+60;n00*100/5;n00*100/5;n00*100/5").obey();
        Edge.type(again, "n11*100/5;n11*100/5;n11*100/5;b0-;o0;$0").obey();
        again.age(99);
        Edge.is("a drum that is old and sold", again.drumOf(0, 1) + again.drumOf(0, 8), 101);
        again.restore();
        again.drum(120);
        for (int what = 0; what < 9; what++) {
            Edge.is("when one like that was there, drumOf(0, " + what + ")", again.drumOf(0, what), due[what]);
        }
        Edge.says(2, "Undoable.");
        Edge.undoable(x, "drum(30)", () -> x.drum(30));
        Edge.noIndex(x, "drumOf(1, 0) behind undo", () -> x.drumOf(1, 0));
        Edge.says(2, "- `softness`: 20 to 300");
        Edge.is("drum(20)", x.drum(20), 1);
        Edge.is("its hardness", x.drumOf(1, 2), 50);
        Edge.is("drum(300)", x.drum(300), 2);
        Edge.is("its hardness", x.drumOf(2, 2), 3);
        Edge.says(2, "Returns its number.");
        BitumenNeedle y = new BitumenNeedle();
        for (int drum = 0; drum < 6; drum++) {
            Edge.is("drum(50)", y.drum(50), drum);
        }
        y.undo();
        Edge.is("drum(50) behind undo", y.drum(50), 5);
        Edge.says(2, "Throws `IllegalArgumentException` if softness is out of range");
        for (int softness : new int[] {19, 301, 0, -1, -20, LEAST, MOST, 20 + (1 << 16)}) {
            Edge.noArgument(x, "drum(" + softness + ")", () -> x.drum(softness));
        }
        Edge.noArgument(y, "drum(19) with 6", () -> y.drum(19));
        Edge.says(2, "Throws `IllegalStateException` if there are 6");
        Edge.noState(y, "drum(20) with 6", () -> y.drum(20));
        Edge.noState(y, "drum(300) with 6", () -> y.drum(300));
        Edge.is("count(0)", y.count(0), 6);
        y.undo();
        Edge.is("drum(300) with 5", y.drum(300), 5);
    }

    private static void promise3() {
        Edge.says(3, "Lets drums get older.");
        BitumenNeedle x = Edge.drums(20, 300);
        x.sample(0);
        x.age(10);
        Edge.is("the first drum", x.drumOf(0, 1), 10);
        Edge.is("the second drum", x.drumOf(1, 1), 10);
        Edge.is("the hardness of the first", x.drumOf(0, 2), 51);
        Edge.is("the hardness of the sample", x.sampleOf(0, 1), 50);
        Edge.says(3, "Undoable.");
        Edge.undoable(x, "age(99)", () -> x.age(99));
        BitumenNeedle none = new BitumenNeedle();
        Edge.undoable(none, "age(1) without drums", () -> none.age(1));
        Edge.says(3, "- `days`: 1 to 99");
        Edge.is("age(1)", x.age(1), 11);
        Edge.is("age(99)", x.age(99), 110);
        Edge.says(3, "Returns the age of the oldest drum then, NONE without drums;");
        Edge.is("age(99) without drums", none.age(99), -1);
        none.drum(20);
        Edge.is("age(5) of one", none.age(5), 5);
        none.drum(20);
        Edge.is("age(5) of two", none.age(5), 10);
        Edge.says(3, "an age is at most 999.");
        BitumenNeedle old = Edge.drums(100);
        for (int time = 0; time < 10; time++) {
            old.age(99);
        }
        Edge.is("the age", old.drumOf(0, 1), 990);
        Edge.is("age(8)", old.age(8), 998);
        old.undo();
        Edge.is("age(9)", old.age(9), 999);
        old.undo();
        Edge.is("age(10)", old.age(10), 999);
        old.drum(100);
        Edge.is("age(99)", old.age(99), 999);
        Edge.is("the age of the first", old.drumOf(0, 1), 999);
        Edge.is("the age of the second", old.drumOf(1, 1), 99);
        Edge.is("the hardness of the first", old.drumOf(0, 2), 109);
        Edge.says(3, "Throws `IllegalArgumentException` if days is out of range");
        for (int days : new int[] {0, 100, -1, -99, LEAST, MOST}) {
            Edge.noArgument(old, "age(" + days + ")", () -> old.age(days));
            Edge.noArgument(none, "age(" + days + ")", () -> none.age(days));
        }
    }

    private static void promise4() {
        Edge.says(4, "Takes a sample.");
        BitumenNeedle x = Edge.drums(20, 300);
        x.sample(1);
        int[] due = {1, 3, 200, -1, 0, -1, 5, -1, 0};
        for (int what = 0; what < 9; what++) {
            Edge.is("sampleOf(0, " + what + ")", x.sampleOf(0, what), due[what]);
        }
        BitumenNeedle again = Edge.warmed(20, 3);
        again.drum(300);
        Edge.sink(again, 3, 0, 2);
        again.bath(2, -1);
        again.ring(2);
        again.bath(2, 2);
        again.toss(2);
        again.sample(1);
        for (int what = 0; what < 9; what++) {
            Edge.is("when one like that was there, sampleOf(2, " + what + ")", again.sampleOf(2, what), due[what]);
        }
        Edge.says(4, "Undoable.");
        Edge.undoable(x, "sample(0)", () -> x.sample(0));
        Edge.says(4, "- `drum`: its number");
        Edge.is("sample(0)", x.sample(0), 1);
        Edge.is("its drum", x.sampleOf(1, 0), 0);
        Edge.is("sample(1)", x.sample(1), 2);
        Edge.is("its drum", x.sampleOf(2, 0), 1);
        Edge.says(4, "Returns the number of the sample.");
        BitumenNeedle y = Edge.drums(100);
        for (int sample = 0; sample < 8; sample++) {
            Edge.is("sample(0)", y.sample(0), sample);
        }
        y.toss(2);
        Edge.is("sample(0) behind toss(2)", y.sample(0), 7);
        Edge.says(4, "Throws `IndexOutOfBoundsException` if there is no such drum");
        BitumenNeedle none = new BitumenNeedle();
        Edge.noIndex(none, "sample(0) without drums", () -> none.sample(0));
        for (int drum : new int[] {-1, 2, 6, LEAST, MOST}) {
            Edge.noIndex(x, "sample(" + drum + ")", () -> x.sample(drum));
        }
        Edge.noIndex(y, "sample(1) with 8", () -> y.sample(1));
        Edge.says(4, "Throws `IllegalStateException` if there are 8");
        Edge.noState(y, "sample(0) with 8", () -> y.sample(0));
        y.toss(7);
        Edge.is("sample(0) with 7", y.sample(0), 7);
    }

    private static void promise5() {
        Edge.says(5, "Throws a sample away.");
        BitumenNeedle x = Edge.warmed(100, 2);
        Edge.sink(x, 2, 0, 0);
        Edge.sink(x, 1, 1, 1);
        x.bath(0, -1);
        x.ring(0);
        x.toss(0);
        Edge.is("samples", x.count(1), 1);
        Edge.is("readings of the one behind it", x.sampleOf(0, 4), 1);
        Edge.is("bath of the one behind it", x.sampleOf(0, 3), 0);
        Edge.is("readings so far", x.count(2), 3);
        x.sample(0);
        int[] due = {0, 10, 200, -1, 0, -1, 5, -1, 0};
        for (int what = 0; what < 9; what++) {
            Edge.is("a new one, sampleOf(1, " + what + ")", x.sampleOf(1, what), due[what]);
        }
        Edge.is("first reading of a new one", x.reading(1, 0, 1), -1);
        Edge.says(5, "Undoable.");
        BitumenNeedle y = Edge.oneSaved(x);
        Edge.undoable(y, "toss(0)", () -> y.toss(0));
        Edge.undoable(y, "toss(1)", () -> y.toss(1));
        Edge.says(5, "- `sample`: its number");
        BitumenNeedle z = Edge.drums(20, 25, 40);
        for (int drum = 0; drum < 3; drum++) {
            z.sample(drum);
        }
        z.toss(2);
        Edge.is("the last one left", z.sampleOf(1, 1), 40);
        z.toss(0);
        Edge.is("the only one left", z.sampleOf(0, 1), 40);
        Edge.says(5, "Returns how many readings it had.");
        Edge.is("toss(0) without readings", z.toss(0), 0);
        BitumenNeedle w = Edge.warmed(300, 2);
        Edge.sink(w, 9, 0, 0);
        Edge.sink(w, 1, 0, 1);
        Edge.is("toss(0) of 9", w.toss(0), 9);
        Edge.is("toss(0) of 1", w.toss(0), 1);
        Edge.says(5, "Throws `IndexOutOfBoundsException` if there is no such sample");
        Edge.noIndex(z, "toss(0) without samples", () -> z.toss(0));
        for (int sample : new int[] {-1, 2, 8, LEAST, MOST}) {
            Edge.noIndex(x, "toss(" + sample + ")", () -> x.toss(sample));
        }
    }

    private static void promise6() {
        Edge.says(6, "Puts a sample into a bath, or takes it out.");
        BitumenNeedle x = Edge.samples(100, 2);
        x.bath(1, 2);
        Edge.is("its bath", x.sampleOf(1, 3), 2);
        Edge.is("the bath of the other", x.sampleOf(0, 3), -1);
        Edge.is("samples in it", x.bathOf(2, 1), 1);
        Edge.is("its degree", x.sampleOf(1, 2), 200);
        x.bath(1, -1);
        Edge.is("its bath when taken out", x.sampleOf(1, 3), -1);
        Edge.is("samples in it", x.bathOf(2, 1), 0);
        Edge.says(6, "Undoable.");
        BitumenNeedle y = Edge.oneSaved(x);
        Edge.undoable(y, "bath(0, 0)", () -> y.bath(0, 0));
        Edge.undoable(y, "bath(0, NONE)", () -> y.bath(0, -1));
        Edge.says(6, "- `sample`: its number");
        Edge.is("bath(0, 1)", y.bath(0, 1), -1);
        Edge.is("bath(1, 1)", y.bath(1, 1), -1);
        Edge.is("the bath of 0", y.sampleOf(0, 3), 1);
        Edge.is("the bath of 1", y.sampleOf(1, 3), 1);
        Edge.says(6, "- `bath`: 0 to 2, or NONE for out of it");
        Edge.is("bath(0, 0)", y.bath(0, 0), 1);
        Edge.is("bath(0, 2)", y.bath(0, 2), 0);
        Edge.is("bath(0, NONE)", y.bath(0, BitumenNeedle.NONE), 2);
        Edge.says(6, "Returns the bath in which it lay, NONE if in none.");
        Edge.is("bath(0, NONE) in none", y.bath(0, -1), -1);
        Edge.is("bath(0, 0) in none", y.bath(0, 0), -1);
        Edge.is("bath(0, 0) in 0", y.bath(0, 0), 0);
        Edge.is("bath(0, 1) in 0", y.bath(0, 1), 0);
        Edge.is("bath(0, NONE) in 1", y.bath(0, -1), 1);
    }

    private static void promise6Refused() {
        Edge.says(6, "Throws `IndexOutOfBoundsException` if there is no such sample, or bath is none of these");
        BitumenNeedle none = new BitumenNeedle();
        Edge.noIndex(none, "bath(0, NONE) without samples", () -> none.bath(0, -1));
        BitumenNeedle x = Edge.samples(100, 8);
        x.toss(7);
        for (int number : new int[] {-1, 7, 8, LEAST, MOST}) {
            Edge.noIndex(x, "bath(" + number + ", 0)", () -> x.bath(number, 0));
            Edge.noIndex(x, "bath(" + number + ", NONE)", () -> x.bath(number, -1));
        }
        for (int bath : new int[] {-2, 3, LEAST, MOST}) {
            Edge.noIndex(x, "bath(0, " + bath + ")", () -> x.bath(0, bath));
        }
        Edge.says(6, "Throws `IllegalStateException` if the bath has 3 other samples");
        for (int sample = 0; sample < 3; sample++) {
            Edge.is("bath(" + sample + ", 1)", x.bath(sample, 1), -1);
        }
        Edge.noState(x, "bath(3, 1) with 3 in it", () -> x.bath(3, 1));
        x.bath(4, 0);
        Edge.noState(x, "bath(4, 1) from another", () -> x.bath(4, 1));
        for (int sample = 0; sample < 3; sample++) {
            Edge.is("bath of one of the 3", x.bath(sample, 1), 1);
        }
        x.bath(1, -1);
        Edge.is("bath(4, 1) with 2 in it", x.bath(4, 1), 0);
        Edge.noState(x, "bath(1, 1) with 3 in it again", () -> x.bath(1, 1));
        x.toss(0);
        Edge.is("behind toss of one of the 3", x.bath(0, 1), -1);
    }

    private static void promise7() {
        Edge.says(7, "Changes the degree of a bath.");
        BitumenNeedle x = new BitumenNeedle();
        x.warm(1, 251);
        Edge.is("its degree", x.bathOf(1, 0), 251);
        Edge.is("the bath before it", x.bathOf(0, 0), 150);
        Edge.is("the bath behind it", x.bathOf(2, 0), 350);
        Edge.says(7, "Undoable.");
        Edge.undoable(x, "warm(1, 0)", () -> x.warm(1, 0));
        Edge.undoable(x, "warm(1, 251), as it is", () -> x.warm(1, 251));
        Edge.says(7, "- `bath`: 0 to 2");
        Edge.is("warm(0, 1)", x.warm(0, 1), 150);
        Edge.is("warm(2, 2)", x.warm(2, 2), 350);
        Edge.says(7, "- `degree`: 0 to 900");
        x.warm(0, 0);
        Edge.is("degree 0", x.bathOf(0, 0), 0);
        x.warm(0, 900);
        Edge.is("degree 900", x.bathOf(0, 0), 900);
        Edge.says(7, "Returns the previous one.");
        Edge.is("warm(0, 0)", x.warm(0, 0), 900);
        Edge.is("warm(0, 5)", x.warm(0, 5), 0);
        Edge.is("warm(0, 5) again", x.warm(0, 5), 5);
        Edge.says(7, "Throws `IndexOutOfBoundsException` if there is no such bath");
        for (int bath : new int[] {-1, 3, LEAST, MOST}) {
            Edge.noIndex(x, "warm(" + bath + ", 0)", () -> x.warm(bath, 0));
            Edge.noIndex(x, "warm(" + bath + ", 901)", () -> x.warm(bath, 901));
        }
        Edge.says(7, "Throws `IllegalArgumentException` if degree is out of range");
        for (int degree : new int[] {-1, 901, LEAST, MOST}) {
            Edge.noArgument(x, "warm(0, " + degree + ")", () -> x.warm(0, degree));
            Edge.noArgument(x, "warm(2, " + degree + ")", () -> x.warm(2, degree));
        }
    }

    private static void promise8() {
        Edge.says(8, "Lets minutes pass.");
        BitumenNeedle x = Edge.samples(100, 2);
        x.bath(0, 1);
        x.warm(0, 0);
        x.bath(1, 0);
        int[] up = {212, 221, 228, 233, 237, 240, 242, 244, 245, 246, 247, 248, 249, 250, 250};
        for (int minute = 0; minute < up.length; minute++) {
            x.pass(1);
            Edge.is("degree behind " + (minute + 1), x.sampleOf(0, 2), up[minute]);
            Edge.is("minutes", x.count(5), minute + 1);
        }
        Edge.says(8, "Undoable, as one call.");
        BitumenNeedle y = Edge.oneSaved(Edge.samples(100, 2));
        y.bath(0, 2);
        Edge.undoable(y, "pass(99)", () -> y.pass(99));
        Edge.is("degree behind undo", y.sampleOf(0, 2), 200);
        Edge.is("minutes behind undo", y.count(5), 0);
        BitumenNeedle none = new BitumenNeedle();
        Edge.undoable(none, "pass(1) without samples", () -> none.pass(1));
        Edge.says(8, "- `minutes`: 1 to 99");
        y.pass(1);
        Edge.is("behind pass(1)", y.sampleOf(0, 2), 237);
        Edge.is("minutes", y.count(5), 1);
        y.pass(99);
        Edge.is("behind pass(99)", y.sampleOf(0, 2), 350);
        Edge.is("minutes", y.count(5), 100);
        Edge.says(8, "Returns how many samples lie in a bath whose degree is theirs.");
        Edge.is("without samples", none.pass(1), 0);
        BitumenNeedle z = Edge.samples(100, 8);
        Edge.is("with 8 at 200 in no bath", z.pass(1), 0);
        for (int sample = 0; sample < 8; sample++) {
            z.bath(sample, sample / 3);
        }
        Edge.is("none has come there behind 1", z.pass(1), 0);
        Edge.is("none has come there behind 11", z.pass(10), 0);
        Edge.is("all of the first bath behind 12", z.pass(1), 3);
        Edge.is("the same behind 13", z.pass(1), 3);
        Edge.is("all of the second bath, too, behind 14", z.pass(1), 6);
        Edge.is("all of the baths", z.pass(99), 8);
        z.warm(2, 351);
        Edge.is("all, with a minute for 1 more", z.pass(1), 8);
        z.warm(2, 353);
        Edge.is("all but those of the third bath", z.pass(1), 6);
        z.bath(0, -1);
        Edge.is("and but one in no bath", z.pass(99), 7);
        Edge.says(8, "Throws `IllegalArgumentException` if minutes is out of range");
        for (int minutes : new int[] {0, 100, -1, LEAST, MOST}) {
            Edge.noArgument(z, "pass(" + minutes + ")", () -> z.pass(minutes));
        }
    }
}
