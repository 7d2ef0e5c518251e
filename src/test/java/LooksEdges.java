/** Promises 22 to 27 at their boundaries. EdgesTest runs it. */
final class LooksEdges {
    private static final int LEAST = Integer.MIN_VALUE;
    private static final int MOST = Integer.MAX_VALUE;

    private LooksEdges() {
    }

    static void run() {
        promise22();
        promise22Numbers();
        promise22Index();
        promise23();
        promise23Numbers();
        promise23Penetration();
        promise24();
        promise25();
        promise26();
        promise27();
        promise27Counts();
    }

    private static void promise22() {
        Edge.says(22, "Returns something of a drum.");
        BitumenNeedle x = Edge.drums(20, 300);
        Edge.is("drumOf(0, 0)", x.drumOf(0, 0), 20);
        Edge.is("drumOf(1, 0)", x.drumOf(1, 0), 300);
        Edge.says(22, "- `drum`: its number");
        BitumenNeedle six = Edge.drums(20, 25, 40, 50, 100, 125);
        Edge.is("the first of 6", six.drumOf(0, 0), 20);
        Edge.is("the last of 6", six.drumOf(5, 0), 125);
        Edge.says(22, "Returns the number.");
        int[] due = {20, 0, 50, 0, -1, -1, -1, -1, -1};
        for (int what = 0; what <= 8; what++) {
            Edge.is("drumOf(0, " + what + ") of a new one", x.drumOf(0, what), due[what]);
        }
        Edge.says(22, "Throws `IndexOutOfBoundsException` if there is no such drum");
        BitumenNeedle none = new BitumenNeedle();
        Edge.noIndex(none, "drumOf(0, 0) without drums", () -> none.drumOf(0, 0));
        for (int drum : new int[] {-1, 2, 6, LEAST, MOST}) {
            Edge.noIndex(x, "drumOf(" + drum + ", 0)", () -> x.drumOf(drum, 0));
            Edge.noIndex(x, "drumOf(" + drum + ", 9)", () -> x.drumOf(drum, 9));
        }
        Edge.noIndex(six, "drumOf(6, 0) of 6", () -> six.drumOf(6, 0));
        Edge.says(22, "Throws `IllegalArgumentException` if what is not 0 to 8");
        for (int what : new int[] {-1, 9, LEAST, MOST}) {
            Edge.noArgument(x, "drumOf(1, " + what + ")", () -> x.drumOf(1, what));
        }
    }

    private static void promise22Numbers() {
        Edge.says(22, "- `what`: 0: its softness; 1: its age; 2: its hardness; 3: its samples;");
        BitumenNeedle x = Edge.drums(20, 300);
        x.age(99);
        for (int sample = 0; sample < 8; sample++) {
            x.sample(1);
        }
        Edge.is("its softness", x.drumOf(1, 0), 300);
        Edge.is("its age", x.drumOf(1, 1), 99);
        Edge.is("its hardness", x.drumOf(1, 2), 12);
        Edge.is("8 samples", x.drumOf(1, 3), 8);
        Edge.is("no samples", x.drumOf(0, 3), 0);
        x.toss(7);
        x.sample(0);
        Edge.is("7 samples", x.drumOf(1, 3), 7);
        Edge.is("1 sample", x.drumOf(0, 3), 1);
        Edge.says(22, "4: its mean penetration, NONE without one;");
        BitumenNeedle y = Edge.warmed(100, 2);
        y.drum(300);
        y.sample(1);
        y.bath(2, 0);
        Edge.sink(y, 2, 0, 0);
        Edge.is("with two readings", y.drumOf(0, 4), -1);
        Edge.sink(y, 1, 0, 0);
        Edge.is("45, 44, 43", y.drumOf(0, 4), 44);
        Edge.sink(y, 3, 0, 1);
        Edge.is("44 and 41", y.drumOf(0, 4), 42);
        Edge.is("of another drum", y.drumOf(1, 4), -1);
        y.pass(60);
        Edge.sink(y, 3, 1, 2);
        Edge.is("125 of another drum", y.drumOf(1, 4), 125);
        Edge.is("44 and 41 still", y.drumOf(0, 4), 42);
        y.set(1, 1);
        Edge.is("apart", y.drumOf(0, 4), -1);
        Edge.says(22, "5: its mean softening, NONE without one;");
        Edge.is("without one", y.drumOf(0, 5), -1);
        y.bath(0, -1);
        y.ring(0);
        Edge.is("405", y.drumOf(0, 5), 405);
        y.age(10);
        y.sample(0);
        y.ring(3);
        Edge.is("405 and 432", y.drumOf(0, 5), 418);
        Edge.is("of another drum", y.drumOf(1, 5), -1);
        y.toss(0);
        Edge.is("432 when the first is thrown away", y.drumOf(0, 5), 432);
    }

    private static void promise22Index() {
        Edge.says(22, "6: its index, and 1000 more, NONE without a penetration or a softening;");
        BitumenNeedle x = Edge.warmed(100, 2);
        Edge.is("without both", x.drumOf(0, 6), -1);
        Edge.sink(x, 3, 0, 0);
        Edge.is("without a softening", x.drumOf(0, 6), -1);
        x.bath(1, -1);
        x.ring(1);
        Edge.is("4 and -3, less 8", x.drumOf(0, 6), 993);
        x.sink(0, 0, 50, 5);
        Edge.is("without a penetration", x.drumOf(0, 6), -1);
        BitumenNeedle low = Edge.sellable(300);
        low.set(2, 60);
        Edge.is("12 and -13, less 60", low.drumOf(0, 6), 939);
        BitumenNeedle hard = Edge.sellable(20);
        hard.set(2, 0);
        Edge.is("0 and 43, less 0", hard.drumOf(0, 6), 1043);
        Edge.says(22, "7: the same told the second way;");
        Edge.is("0 and 43, less 0", hard.drumOf(0, 7), 1043);
        Edge.is("12 and -13, less 60", low.drumOf(0, 7), 939);
        Edge.is("without a penetration", x.drumOf(0, 7), -1);
        x.undo();
        Edge.is("4 and -3, less 8", x.drumOf(0, 7), 993);
        x.undo();
        Edge.is("without a softening", x.drumOf(0, 7), -1);
        Edge.says(22, "8: its class, NONE if it is not sold");
        hard.set(2, 30);
        Edge.is("before it is sold", hard.drumOf(0, 8), -1);
        hard.sell(0);
        Edge.is("class 0", hard.drumOf(0, 8), 0);
        low.set(2, 0);
        low.sell(0);
        Edge.is("class 6", low.drumOf(0, 8), 6);
        low.undo();
        Edge.is("behind undo", low.drumOf(0, 8), -1);
    }

    private static void promise23() {
        Edge.says(23, "Returns something of a sample.");
        BitumenNeedle x = Edge.drums(20, 300);
        x.sample(1);
        x.sample(0);
        Edge.is("hardness of the first", x.sampleOf(0, 1), 3);
        Edge.is("hardness of the second", x.sampleOf(1, 1), 50);
        Edge.says(23, "- `sample`: its number");
        BitumenNeedle eight = Edge.samples(100, 8);
        eight.bath(7, 2);
        Edge.is("bath of the last of 8", eight.sampleOf(7, 3), 2);
        Edge.is("bath of the first of 8", eight.sampleOf(0, 3), -1);
        Edge.says(23, "Returns the number.");
        int[] due = {1, 3, 200, -1, 0, -1, 5, -1, 0};
        for (int what = 0; what <= 8; what++) {
            Edge.is("sampleOf(0, " + what + ") of a new one", x.sampleOf(0, what), due[what]);
        }
        Edge.says(23, "Throws `IndexOutOfBoundsException` if there is no such sample");
        BitumenNeedle none = Edge.drums(20);
        Edge.noIndex(none, "sampleOf(0, 0) without samples", () -> none.sampleOf(0, 0));
        for (int sample : new int[] {-1, 2, 8, LEAST, MOST}) {
            Edge.noIndex(x, "sampleOf(" + sample + ", 0)", () -> x.sampleOf(sample, 0));
            Edge.noIndex(x, "sampleOf(" + sample + ", 9)", () -> x.sampleOf(sample, 9));
        }
        Edge.noIndex(eight, "sampleOf(8, 0) of 8", () -> eight.sampleOf(8, 0));
        Edge.says(23, "Throws `IllegalArgumentException` if what is not 0 to 8");
        for (int what : new int[] {-1, 9, LEAST, MOST}) {
            Edge.noArgument(x, "sampleOf(1, " + what + ")", () -> x.sampleOf(1, what));
        }
    }

    private static void promise23Numbers() {
        Edge.says(23, "- `what`: 0: its drum; 1: its hardness; 2: its degree;");
        BitumenNeedle x = Edge.drums(20, 25, 40, 50, 100, 125);
        x.sample(5);
        x.sample(0);
        Edge.is("the last drum", x.sampleOf(0, 0), 5);
        Edge.is("the first drum", x.sampleOf(1, 0), 0);
        Edge.is("its hardness", x.sampleOf(0, 1), 8);
        x.warm(0, 0);
        x.bath(0, 0);
        x.warm(1, 900);
        x.bath(1, 1);
        x.pass(99);
        Edge.is("the least degree", x.sampleOf(0, 2), 0);
        Edge.is("the greatest degree", x.sampleOf(1, 2), 900);
        Edge.says(23, "3: its bath, NONE without one;");
        Edge.is("bath 0", x.sampleOf(0, 3), 0);
        x.bath(0, 2);
        Edge.is("bath 2", x.sampleOf(0, 3), 2);
        x.bath(0, -1);
        Edge.is("no bath", x.sampleOf(0, 3), -1);
        Edge.says(23, "4: its readings, how many;");
        BitumenNeedle y = Edge.warmed(300, 2);
        for (int readings = 0; readings <= 9; readings++) {
            Edge.is("readings", y.sampleOf(0, 4), readings);
            if (readings < 9) {
                y.sink(0, 0, 100, 5);
            }
        }
        Edge.is("readings of the other", y.sampleOf(1, 4), 0);
        Edge.says(23, "7: its softening, NONE if that was not asked;");
        Edge.is("not asked", y.sampleOf(0, 7), -1);
        y.bath(0, -1);
        y.ring(0);
        Edge.is("asked", y.sampleOf(0, 7), 291);
        y.bath(0, 0);
        Edge.is("in a bath again", y.sampleOf(0, 7), 291);
        Edge.is("the other one's", y.sampleOf(1, 7), -1);
        Edge.says(23, "8: a mask of the needles of its latest three readings, with the bit n for the needle n");
        BitumenNeedle z = Edge.warmed(300, 1);
        int[] needles = {2, 2, 0, 1, 1, 1, 0, 2, 1};
        int[] masks = {4, 4, 5, 7, 3, 2, 3, 7, 7};
        Edge.is("without readings", z.sampleOf(0, 8), 0);
        for (int reading = 0; reading < 9; reading++) {
            z.sink(needles[reading], 0, 50 + reading, 60);
            Edge.is("the mask behind reading " + reading, z.sampleOf(0, 8), masks[reading]);
        }
    }

    private static void promise23Penetration() {
        Edge.says(23, "5: its penetration, NONE without one;");
        BitumenNeedle x = Edge.warmed(100, 1);
        Edge.sink(x, 2, 0, 0);
        Edge.is("of two readings", x.sampleOf(0, 5), -1);
        Edge.sink(x, 1, 0, 0);
        Edge.is("of 45, 44, 43", x.sampleOf(0, 5), 44);
        Edge.sink(x, 1, 1, 0);
        Edge.is("of 44, 43, 45", x.sampleOf(0, 5), 44);
        Edge.sink(x, 1, 1, 0);
        Edge.is("of 43, 45, 44", x.sampleOf(0, 5), 44);
        Edge.sink(x, 1, 0, 0);
        Edge.is("of 45, 44, 42", x.sampleOf(0, 5), 43);
        Edge.says(23, "6: why it has none: 5 to 7, 0 if it has one;");
        BitumenNeedle y = Edge.warmed(300, 1);
        y.set(1, 0);
        Edge.is("without readings", y.sampleOf(0, 6), 5);
        Edge.sink(y, 2, 0, 0);
        Edge.is("of two readings", y.sampleOf(0, 6), 5);
        y.sink(0, 0, 200, 5);
        Edge.is("with another weight", y.sampleOf(0, 6), 6);
        Edge.sink(y, 2, 0, 0);
        Edge.is("with another weight in the oldest of three", y.sampleOf(0, 6), 6);
        Edge.sink(y, 1, 0, 0);
        Edge.is("of three the same", y.sampleOf(0, 6), 0);
        y.warm(0, 255);
        y.pass(10);
        Edge.sink(y, 1, 0, 0);
        Edge.is("of 125, 125, 126", y.sampleOf(0, 6), 7);
        y.set(1, 1);
        Edge.is("of 125, 125, 126 with 1", y.sampleOf(0, 6), 0);
    }

    private static void promise24() {
        Edge.says(24, "Returns something of a reading of a sample.");
        BitumenNeedle x = Edge.warmed(300, 2);
        x.sink(2, 1, 199, 59);
        Edge.is("its seconds", x.reading(1, 0, 3), 59);
        Edge.is("of the other sample", x.reading(0, 0, 3), -1);
        Edge.says(24, "- `sample`: its number");
        BitumenNeedle eight = Edge.warmed(300, 8);
        eight.sink(0, 7, 100, 5);
        Edge.is("of the last of 8", eight.reading(7, 0, 1), 125);
        Edge.is("of the first of 8", eight.reading(0, 0, 1), -1);
        Edge.says(24, "- `reading`: its place, from 0, the oldest one");
        BitumenNeedle y = Edge.warmed(300, 1);
        for (int reading = 0; reading < 9; reading++) {
            y.sink(0, 0, 100 + reading, 10);
        }
        Edge.is("the oldest one", y.reading(0, 0, 2), 100);
        Edge.is("the second", y.reading(0, 1, 2), 101);
        Edge.is("the latest of 9", y.reading(0, 8, 2), 108);
        Edge.says(24, "- `what`: 0: the needle; 1: the depth; 2: the weight; 3: the seconds");
        int[] due = {2, 400, 199, 59};
        for (int what = 0; what < 4; what++) {
            Edge.is("reading(1, 0, " + what + ")", x.reading(1, 0, what), due[what]);
        }
        Edge.says(24, "Returns the number; NONE if there are not so many.");
        for (int reading : new int[] {1, 2, 8, 9, 10, 1 << 30, 1 << 29, MOST}) {
            for (int what = 0; what < 4; what++) {
                Edge.is("reading(1, " + reading + ", " + what + ")", x.reading(1, reading, what), -1);
            }
        }
        Edge.is("the tenth of 9", y.reading(0, 9, 0), -1);
        y.undo();
        Edge.is("the ninth behind undo", y.reading(0, 8, 0), -1);
        Edge.says(24, "Throws `IndexOutOfBoundsException` if there is no such sample");
        BitumenNeedle none = new BitumenNeedle();
        Edge.noIndex(none, "reading(0, 0, 0) without samples", () -> none.reading(0, 0, 0));
        for (int sample : new int[] {-1, 2, 8, LEAST, MOST}) {
            Edge.noIndex(x, "reading(" + sample + ", 0, 0)", () -> x.reading(sample, 0, 0));
            Edge.noIndex(x, "reading(" + sample + ", -1, 4)", () -> x.reading(sample, -1, 4));
        }
        Edge.says(24, "Throws `IllegalArgumentException` if reading is below 0, or what is not 0 to 3");
        for (int below : new int[] {-1, -9, LEAST}) {
            Edge.noArgument(x, "reading(1, " + below + ", 0)", () -> x.reading(1, below, 0));
        }
        for (int what : new int[] {-1, 4, LEAST, MOST}) {
            Edge.noArgument(x, "reading(1, 0, " + what + ")", () -> x.reading(1, 0, what));
            Edge.noArgument(x, "reading(0, 0, " + what + ") without readings", () -> x.reading(0, 0, what));
            Edge.noArgument(x, "reading(1, 99, " + what + ")", () -> x.reading(1, 99, what));
        }
    }

    private static void promise25() {
        Edge.says(25, "Returns something of a needle.");
        BitumenNeedle x = Edge.warmed(20, 1);
        x.sink(2, 0, 100, 5);
        Edge.is("wear of 2", x.needle(2, 0), 1);
        Edge.is("wear of 0", x.needle(0, 0), 0);
        Edge.says(25, "- `needle`: 0 to 2");
        for (int needle = 0; needle < 3; needle++) {
            Edge.is("readings with " + needle, x.needle(needle, 2), needle == 2 ? 1 : 0);
        }
        Edge.says(25, "- `what`: 0: its wear;");
        BitumenNeedle y = Edge.warmed(300, 3);
        for (int time = 0; time < 22; time++) {
            y.sink(1, time / 9, 100, 1);
        }
        Edge.is("behind 22 readings", y.needle(1, 0), 20);
        y.sink(0, 2, 100, 2);
        Edge.is("behind one of 50", y.needle(0, 0), 0);
        y.renew(1);
        Edge.is("of a new one", y.needle(1, 0), 0);
        Edge.says(25, "1: 1 if it is bent, otherwise 0;");
        x.sink(2, 0, 102, 1);
        Edge.is("behind the depth 1", x.needle(2, 1), 0);
        x.sink(2, 0, 102, 1);
        Edge.is("behind the depth 0", x.needle(2, 1), 1);
        Edge.is("of another", x.needle(1, 1), 0);
        Edge.says(25, "2: readings with it so far, of this one and those before it");
        Edge.is("of this one", x.needle(2, 2), 3);
        x.renew(2);
        Edge.is("of the one before it", x.needle(2, 2), 3);
        x.sink(2, 0, 100, 5);
        Edge.is("of both", x.needle(2, 2), 4);
        x.toss(0);
        Edge.is("without the sample", x.needle(2, 2), 4);
        x.undo();
        x.undo();
        Edge.is("behind undo of the last", x.needle(2, 2), 3);
        Edge.says(25, "Returns the number.");
        Edge.is("needle(1, 2)", y.needle(1, 2), 22);
        Edge.is("needle(2, 2)", y.needle(2, 2), 0);
        Edge.says(25, "Throws `IndexOutOfBoundsException` if there is no such needle");
        for (int needle : new int[] {-1, 3, LEAST, MOST}) {
            Edge.noIndex(x, "needle(" + needle + ", 0)", () -> x.needle(needle, 0));
            Edge.noIndex(x, "needle(" + needle + ", 3)", () -> x.needle(needle, 3));
        }
        Edge.says(25, "Throws `IllegalArgumentException` if what is not 0 to 2");
        for (int what : new int[] {-1, 3, LEAST, MOST}) {
            Edge.noArgument(x, "needle(2, " + what + ")", () -> x.needle(2, what));
        }
    }

    private static void promise26() {
        Edge.says(26, "Returns something of a bath.");
        BitumenNeedle x = Edge.samples(100, 4);
        x.bath(0, 1);
        Edge.is("samples in 1", x.bathOf(1, 1), 1);
        Edge.is("samples in 0", x.bathOf(0, 1), 0);
        Edge.says(26, "- `bath`: 0 to 2");
        for (int bath = 0; bath < 3; bath++) {
            Edge.is("degree of " + bath, x.bathOf(bath, 0), 150 + 100 * bath);
        }
        Edge.says(26, "- `what`: 0: its degree; 1: samples in it;");
        x.warm(1, 900);
        Edge.is("the greatest degree", x.bathOf(1, 0), 900);
        x.warm(1, 0);
        Edge.is("the least degree", x.bathOf(1, 0), 0);
        x.bath(1, 1);
        x.bath(2, 1);
        Edge.is("3 samples", x.bathOf(1, 1), 3);
        x.toss(1);
        Edge.is("2 samples behind toss", x.bathOf(1, 1), 2);
        Edge.says(26, "2: the greatest difference of its degree and that of a sample in it, NONE without samples");
        Edge.is("without samples", x.bathOf(0, 2), -1);
        Edge.is("of 0 and 200", x.bathOf(1, 2), 200);
        x.warm(1, 200);
        Edge.is("of 200 and 200", x.bathOf(1, 2), 0);
        x.warm(1, 900);
        Edge.is("of 900 and 200", x.bathOf(1, 2), 700);
        x.bath(1, 2);
        x.pass(1);
        x.warm(1, 300);
        x.bath(1, 1);
        Edge.is("of 300 with 375 and 237", x.bathOf(1, 2), 75);
        x.warm(1, 310);
        Edge.is("of 310 with 375 and 237", x.bathOf(1, 2), 73);
        x.bath(0, -1);
        x.bath(1, -1);
        Edge.is("when they are taken out", x.bathOf(1, 2), -1);
        Edge.says(26, "Returns the number.");
        Edge.is("bathOf(1, 0)", x.bathOf(1, 0), 310);
        Edge.is("bathOf(1, 1)", x.bathOf(1, 1), 0);
        Edge.says(26, "Throws `IndexOutOfBoundsException` if there is no such bath");
        for (int bath : new int[] {-1, 3, LEAST, MOST}) {
            Edge.noIndex(x, "bathOf(" + bath + ", 0)", () -> x.bathOf(bath, 0));
            Edge.noIndex(x, "bathOf(" + bath + ", 3)", () -> x.bathOf(bath, 3));
        }
        Edge.says(26, "Throws `IllegalArgumentException` if what is not 0 to 2");
        for (int what : new int[] {-1, 3, LEAST, MOST}) {
            Edge.noArgument(x, "bathOf(2, " + what + ")", () -> x.bathOf(2, what));
        }
    }

    private static void promise27() {
        Edge.says(27, "Returns a number.");
        int[] due = {0, 0, 0, 0, 0, 0, 0, 0, 5, 12, 8, 0};
        BitumenNeedle none = new BitumenNeedle();
        for (int what = 0; what <= 11; what++) {
            Edge.is("count(" + what + ") of a new object", none.count(what), due[what]);
        }
        Edge.says(27, "Returns the number.");
        BitumenNeedle x = Edge.sellable(100);
        int[] later = {1, 2, 6, 0, 0, 60, 2, 0, 5, 12, 8, 6};
        for (int what = 0; what <= 11; what++) {
            Edge.is("count(" + what + ")", x.count(what), later[what]);
        }
        Edge.says(27, "Throws `IllegalArgumentException` if what is not 0 to 11");
        for (int what : new int[] {-1, 12, LEAST, MOST}) {
            Edge.noArgument(x, "count(" + what + ")", () -> x.count(what));
            Edge.noArgument(none, "count(" + what + ")", () -> none.count(what));
        }
    }

    private static void promise27Counts() {
        Edge.says(27, "- `what`: 0: drums; 1: samples;");
        BitumenNeedle x = Edge.drums(20, 20, 20, 20, 20, 20);
        for (int sample = 0; sample < 8; sample++) {
            x.sample(sample % 6);
        }
        Edge.is("6 drums", x.count(0), 6);
        Edge.is("8 samples", x.count(1), 8);
        x.toss(0);
        Edge.is("7 samples", x.count(1), 7);
        Edge.says(27, "2: readings so far; 3: needles that are bent;");
        BitumenNeedle y = Edge.warmed(20, 3);
        for (int needle = 0; needle < 3; needle++) {
            Edge.is("needles that are bent", y.count(3), needle);
            y.sink(needle, needle, 50, 1);
        }
        Edge.is("all are bent", y.count(3), 3);
        Edge.is("3 readings", y.count(2), 3);
        y.toss(1);
        Edge.is("of samples that are thrown away, too", y.count(2), 3);
        y.renew(1);
        Edge.is("two are bent", y.count(3), 2);
        Edge.is("of needles that are renewed, too", y.count(2), 3);
        y.undo();
        y.undo();
        y.undo();
        Edge.is("behind undo", y.count(2), 2);
        Edge.says(27, "4: drums that are sold; 5: minutes so far;");
        BitumenNeedle z = Edge.sellable(100);
        z.drum(20);
        Edge.is("none is sold", z.count(4), 0);
        z.sell(0);
        Edge.is("one is sold", z.count(4), 1);
        z.pass(99);
        Edge.type(z, "+1;+99").obey();
        Edge.is("minutes of pass and obey", z.count(5), 60 + 99 + 100);
        Edge.says(27, "6: samples with a penetration; 7: needles renewed so far;");
        Edge.is("of two", z.count(6), 2);
        z.set(1, 1);
        Edge.is("of none", z.count(6), 0);
        z.set(1, 2);
        z.toss(0);
        Edge.is("of one", z.count(6), 1);
        z.renew(0);
        z.renew(0);
        z.renew(2);
        Edge.is("renewed", z.count(7), 3);
        Edge.says(27, "8 to 10: the settings 0 to 2; 11: saved states");
        z.set(0, 50);
        z.set(1, 100);
        z.set(2, 60);
        Edge.is("setting 0", z.count(8), 50);
        Edge.is("setting 1", z.count(9), 100);
        Edge.is("setting 2", z.count(10), 60);
        Edge.is("saved states", z.count(11), 6);
        z.undo();
        Edge.is("saved states behind undo", z.count(11), 5);
        Edge.is("setting 2 behind undo", z.count(10), 8);
    }
}
