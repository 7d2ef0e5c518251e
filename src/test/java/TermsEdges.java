/** What the document says before its promises: drums, samples, baths, needles. EdgesTest runs it. */
final class TermsEdges {
    private static final int FIRST = Document.FIRST_PART;

    private TermsEdges() {
    }

    static void run() {
        withoutEdge();
        use();
        divisions();
        drums();
        samples();
        hardness();
        baths();
        minutes();
        needles();
        depth();
        depthEnds();
        reasons();
        reasonsAlone();
        wear();
        readings();
        penetration();
        penetrationRefused();
    }

    private static void withoutEdge() {
        for (String words : new String[] {
            "Needle that sinks in bitumen with baths, weights, seconds and softening rings: samples of bitumen from drums,"
                + " baths that warm and cool them, needles with weights that sink by the second, depths that are read,"
                + " means of three readings that must not lie apart, rings whose balls fall at a softening degree,"
                + " hardness that grows with age, needles that are worn or bent, drums that are sold by readings of"
                + " several needles, classes of bitumen, refusals with what lies behind them, an index of how depth and"
                + " softening agree told in two ways, the next second at which a depth is reached, the best bath, orders"
                + " as texts with errors by place and the reason of a stop, undo, and one snapshot.",
            "what later calls answer is free.", "Degrees are tenths of a degree; depths are tenths of a millimetre.",
            "Drums, samples", "Undo, the snapshot", "the interface says: ---- drums, samples, baths.",
            "Ahead of the calls `drum`, `age`, `sample`, `toss`, `bath`, `warm`, `pass`",
            "Ahead of the calls `sink`, `renew`, `ring`, `sell`, `set` the interface says: ---- needles, rings, selling.",
            "Ahead of the calls `append`, `clearBuffer`, `firstError`, `obey`, `stopped` the interface says: ---- texts.",
            "Ahead of the calls `undo`, `keep`, `restore` the interface says: ---- undo, the snapshot."}) {
            Edge.namesNoEdge(FIRST, words);
        }
    }

    private static void use() {
        Edge.says(FIRST, "An object is used for at most 512 calls after it has been made;");
        BitumenNeedle x = new BitumenNeedle();
        for (int call = 1; call <= 511; call++) {
            x.pass(99);
        }
        Edge.is("the 512th call, count(5)", x.count(5), 50589);
        BitumenNeedle y = new BitumenNeedle();
        for (int call = 1; call <= 504; call += 4) {
            y.append('+');
            y.append('9');
            y.append('9');
            y.obey();
        }
        y.drum(20);
        y.sample(0);
        y.bath(0, 0);
        Edge.is("minutes of 126 texts", y.count(5), 126 * 99);
        y.keep();
        y.append('s');
        y.clearBuffer();
        Edge.is("the 512th call, pass(99)", y.pass(99), 1);
    }

    private static void divisions() {
        Edge.says(FIRST, "All numbers are integers, but for a share;");
        BitumenNeedle x = Edge.warmed(100, 3);
        Edge.sink(x, 3, 0, 0);
        Edge.is("500 by 11", x.reading(0, 0, 1), 45);
        Check.that("a share of 1 by 3", x.readShare() == 1.0 / 3.0);
        Edge.says(FIRST, "divisions are rounded down (towards the lesser number, also below 0).");
        BitumenNeedle y = Edge.samples(51, 1);
        y.age(9);
        Edge.is("hardness, 1000 by 51 and 9 by 10", y.drumOf(0, 2), 19);
        y.warm(0, 199);
        y.bath(0, 0);
        y.pass(1);
        Edge.is("a quarter of -1 more than 200", y.sampleOf(0, 2), 199);
        Edge.is("100 * 11 by 20, with a fifth of -51", y.ifSunk(0, 0, 100, 11), 55 * 89 / 100);
        BitumenNeedle z = Edge.sellable(100);
        Edge.is("the mean of 45, 44 and 43", z.sampleOf(0, 5), 44);
        Edge.is("the softening", z.drumOf(0, 5), 405);
        Edge.is("the index: 4, and -45 by 10, less 8", z.drumOf(0, 6), 4 - 5 - 8 + 1000);
    }

    private static void drums() {
        Edge.says(FIRST, "There are at most 6 drums, numbered from 0,");
        BitumenNeedle x = new BitumenNeedle();
        Edge.noIndex(x, "drumOf(0, 0) without drums", () -> x.drumOf(0, 0));
        for (int drum = 0; drum < 6; drum++) {
            Edge.is("drum(100)", x.drum(100), drum);
            Edge.is("the softness of drum " + drum, x.drumOf(drum, 0), 100);
        }
        Edge.noState(x, "a seventh drum(100)", () -> x.drum(100));
        Edge.noIndex(x, "drumOf(6, 0)", () -> x.drumOf(6, 0));
        Edge.is("count(0)", x.count(0), 6);
        Edge.says(FIRST, "each with a softness, 20 to 300, and an age in days, 0 at first.");
        BitumenNeedle y = new BitumenNeedle();
        Edge.noArgument(y, "drum(19)", () -> y.drum(19));
        Edge.noArgument(y, "drum(301)", () -> y.drum(301));
        Edge.is("drum(20)", y.drum(20), 0);
        Edge.is("drum(300)", y.drum(300), 1);
        y.age(1);
        y.drum(300);
        Edge.is("the softness of the first", y.drumOf(0, 0), 20);
        Edge.is("the softness of the second", y.drumOf(1, 0), 300);
        Edge.is("the age of the second", y.drumOf(1, 1), 1);
        Edge.is("the age of the third", y.drumOf(2, 1), 0);
    }

    private static void samples() {
        Edge.says(FIRST, "There are at most 8 samples, numbered from 0 in the order in which they were taken;");
        BitumenNeedle x = Edge.drums(20, 25, 40, 50, 100, 125);
        for (int sample = 0; sample < 8; sample++) {
            Edge.is("sample(" + sample % 6 + ")", x.sample(sample % 6), sample);
        }
        Edge.noState(x, "a ninth sample(0)", () -> x.sample(0));
        for (int sample = 0; sample < 8; sample++) {
            Edge.is("the drum of sample " + sample, x.sampleOf(sample, 0), sample % 6);
        }
        Edge.noIndex(x, "sampleOf(8, 0)", () -> x.sampleOf(8, 0));
        Edge.says(FIRST, "if one is thrown away, those behind it have numbers that are less by 1.");
        drumsOfSamplesAre(x, 0, 1, 2, 3, 4, 5, 0, 1);
        x.toss(3);
        drumsOfSamplesAre(x, 0, 1, 2, 4, 5, 0, 1);
        x.toss(6);
        drumsOfSamplesAre(x, 0, 1, 2, 4, 5, 0);
        x.toss(0);
        drumsOfSamplesAre(x, 1, 2, 4, 5, 0);
        for (int left = 5; left > 0; left--) {
            x.toss(0);
        }
        drumsOfSamplesAre(x);
        Edge.is("sample(5) when all are thrown away", x.sample(5), 0);
        Edge.says(FIRST, "A sample is of a drum; it has the hardness that the drum had when it was taken,");
        BitumenNeedle y = Edge.drums(20, 100);
        y.sample(1);
        y.age(99);
        y.sample(1);
        Edge.is("its drum", y.sampleOf(0, 0), 1);
        Edge.is("taken at 0 days", y.sampleOf(0, 1), 10);
        Edge.is("taken at 99 days", y.sampleOf(1, 1), 19);
        Edge.is("the drum", y.drumOf(1, 2), 19);
        Edge.says(FIRST, "a degree, at first 200, a bath in which it lies, or none, and readings.");
        y.warm(0, 900);
        y.pass(99);
        Edge.is("sample(0)", y.sample(0), 2);
        Edge.is("degree of a new one", y.sampleOf(2, 2), 200);
        Edge.is("bath of a new one", y.sampleOf(2, 3), -1);
        Edge.is("readings of a new one", y.sampleOf(2, 4), 0);
        Edge.is("first reading of a new one", y.reading(2, 0, 0), -1);
    }

    private static void drumsOfSamplesAre(BitumenNeedle x, int... drums) {
        Edge.is("count(1)", x.count(1), drums.length);
        for (int sample = 0; sample < drums.length; sample++) {
            Edge.is("the drum of sample " + sample, x.sampleOf(sample, 0), drums[sample]);
        }
        Edge.noIndex(x, "a sample behind the last", () -> x.sampleOf(drums.length, 0));
    }

    private static void hardness() {
        Edge.says(FIRST, "The hardness of a drum is 1000 divided by its softness, and its age divided by 10, together.");
        int[][] dues = {{20, 0, 50}, {20, 9, 50}, {20, 10, 51}, {20, 19, 51}, {20, 999, 149}, {33, 0, 30}, {34, 0, 29},
            {77, 0, 12}, {91, 0, 10}, {143, 0, 6}, {200, 0, 5}, {201, 0, 4}, {250, 0, 4}, {251, 0, 3}, {300, 0, 3}, {300, 99, 12}, {300, 999, 102}};
        for (int[] due : dues) {
            BitumenNeedle x = Edge.drums(due[0]);
            for (int left = due[1]; left > 0; left -= 99) {
                x.age(Math.min(left, 99));
            }
            x.sample(0);
            Edge.is("softness " + due[0] + ", age " + due[1], x.drumOf(0, 2), due[2]);
            Edge.is("a sample of it", x.sampleOf(0, 1), due[2]);
        }
    }

    private static void baths() {
        Edge.says(FIRST, "There are 3 baths, numbered from 0, each with a degree, 0 to 900, at first 150, 250 and 350,");
        BitumenNeedle x = new BitumenNeedle();
        Edge.noIndex(x, "bathOf(-1, 0)", () -> x.bathOf(-1, 0));
        Edge.noIndex(x, "bathOf(3, 0)", () -> x.bathOf(3, 0));
        for (int bath = 0; bath < 3; bath++) {
            int at = bath;
            Edge.is("the first degree of " + bath, x.bathOf(bath, 0), 150 + 100 * bath);
            Edge.noArgument(x, "warm to -1", () -> x.warm(at, -1));
            Edge.noArgument(x, "warm to 901", () -> x.warm(at, 901));
            x.warm(bath, 0);
            Edge.is("degree 0 of " + bath, x.bathOf(bath, 0), 0);
            x.warm(bath, 900);
            Edge.is("degree 900 of " + bath, x.bathOf(bath, 0), 900);
        }
        Edge.says(FIRST, "and room for 3 samples.");
        BitumenNeedle y = Edge.samples(100, 8);
        for (int sample = 0; sample < 8; sample++) {
            Edge.is("into bath " + sample / 3, y.bath(sample, sample / 3), -1);
        }
        Edge.is("samples in bath 0", y.bathOf(0, 1), 3);
        Edge.is("samples in bath 1", y.bathOf(1, 1), 3);
        Edge.is("samples in bath 2", y.bathOf(2, 1), 2);
        Edge.noState(y, "a fourth one into bath 0", () -> y.bath(7, 0));
        Edge.noState(y, "a fourth one into bath 1", () -> y.bath(0, 1));
        Edge.is("a third one into bath 2", y.bath(0, 2), 0);
        Edge.noState(y, "a fourth one into bath 2", () -> y.bath(1, 2));
    }

    /** A sample at some degree lies in a bath, or in none, for a minute. */
    private static void minuteIs(int degree, int bathDegree, int due) {
        BitumenNeedle x = Edge.samples(100, 1);
        x.warm(1, degree);
        x.bath(0, 1);
        x.pass(99);
        Edge.is("degree before", x.sampleOf(0, 2), degree);
        if (bathDegree == 200) {
            x.bath(0, -1);
            x.pass(1);
            Edge.is("from " + degree + " without a bath", x.sampleOf(0, 2), due);
            x.undo();
        }
        x.warm(2, bathDegree);
        x.bath(0, 2);
        x.pass(1);
        Edge.is("from " + degree + " in a bath of " + bathDegree, x.sampleOf(0, 2), due);
    }

    private static void minutes() {
        Edge.says(FIRST, "When a minute passes, the degree of each sample becomes greater by a quarter of what its bath is"
                + " warmer (rounded down, also below 0);");
        int[][] quarters = {{200, 204, 201}, {200, 207, 201}, {200, 208, 202}, {200, 900, 375}, {0, 900, 225},
            {200, 199, 199}, {200, 196, 199}, {200, 195, 198}, {200, 192, 198}, {200, 191, 197}, {200, 0, 150},
            {900, 0, 675}};
        for (int[] each : quarters) {
            minuteIs(each[0], each[1], each[2]);
        }
        Edge.says(FIRST, "and by 1 more, if that is 0 and the bath is warmer;");
        minuteIs(300, 301, 301);
        minuteIs(300, 302, 301);
        minuteIs(300, 303, 301);
        minuteIs(300, 304, 301);
        minuteIs(300, 300, 300);
        minuteIs(300, 299, 299);
        Edge.says(FIRST, "without a bath, the same with 200 in place of the bath's degree.");
        minuteIs(199, 200, 200);
        minuteIs(197, 200, 198);
        minuteIs(196, 200, 197);
        minuteIs(192, 200, 194);
        minuteIs(0, 200, 50);
        minuteIs(200, 200, 200);
        minuteIs(201, 200, 200);
        minuteIs(204, 200, 203);
        minuteIs(205, 200, 203);
        minuteIs(900, 200, 725);
    }

    private static void needles() {
        Edge.says(FIRST, "There are 3 needles, numbered from 0, each with wear, 0 to 20, at first 0, and bent or not (at"
                + " first not).");
        BitumenNeedle x = Edge.warmed(300, 6);
        Edge.noIndex(x, "needle(-1, 0)", () -> x.needle(-1, 0));
        Edge.noIndex(x, "needle(3, 0)", () -> x.needle(3, 0));
        for (int needle = 0; needle < 3; needle++) {
            Edge.is("first wear of " + needle, x.needle(needle, 0), 0);
            Edge.is("first bend of " + needle, x.needle(needle, 1), 0);
        }
        for (int time = 0; time < 21; time++) {
            x.sink(2, time / 9, 100, 1);
            Edge.is("wear behind " + (time + 1), x.needle(2, 0), Math.min(time + 1, 20));
        }
        Edge.is("wear of another", x.needle(1, 0), 0);
        x.sink(2, 3, 50, 1);
        Edge.is("bent", x.needle(2, 1), 1);
        Edge.is("another is not bent", x.needle(1, 1), 0);
        Edge.says(FIRST, "A needle sinks into a sample with a weight, 50 to 200 grams, for seconds, 1 to 60.");
        BitumenNeedle y = Edge.warmed(100, 1);
        Edge.is("50 grams, 1 second", y.sink(0, 0, 50, 1), 4);
        Edge.is("200 grams, 1 second", y.sink(1, 0, 200, 1), 18);
        Edge.is("50 grams, 60 seconds", y.sink(2, 0, 50, 60), 272);
        Edge.is("200 grams, 60 seconds", y.sink(2, 0, 200, 60), 400);
        Edge.noArgument(y, "49 grams", () -> y.sink(0, 0, 49, 1));
        Edge.noArgument(y, "201 grams", () -> y.sink(0, 0, 201, 1));
        Edge.noArgument(y, "0 seconds", () -> y.sink(0, 0, 50, 0));
        Edge.noArgument(y, "61 seconds", () -> y.sink(0, 0, 50, 61));
    }

    /** A sample of a drum of that softness, at that degree. */
    private static BitumenNeedle atDegree(int softness, int degree) {
        BitumenNeedle x = Edge.samples(softness, 1);
        x.warm(0, degree);
        x.bath(0, 0);
        x.pass(99);
        return x;
    }

    private static void depth() {
        Edge.says(FIRST, "The depth is: weight times seconds, divided by the hardness of the sample and 1, together;");
        BitumenNeedle x = Edge.warmed(20, 1);
        Edge.is("50 by 51", x.ifSunk(0, 0, 50, 1), 0);
        Edge.is("51 by 51", x.ifSunk(0, 0, 51, 1), 1);
        Edge.is("101 by 51", x.ifSunk(0, 0, 101, 1), 1);
        Edge.is("102 by 51", x.ifSunk(0, 0, 102, 1), 2);
        Edge.is("12000 by 51", x.ifSunk(0, 0, 200, 60), 235);
        Edge.is("200 by 4", Edge.warmed(300, 1).ifSunk(0, 0, 200, 1), 50);
        BitumenNeedle old = Edge.drums(20);
        for (int time = 0; time < 11; time++) {
            old.age(99);
        }
        old.sample(0);
        old.warm(0, 250);
        old.bath(0, 0);
        old.pass(99);
        Edge.is("149 by 150", old.ifSunk(0, 0, 149, 1), 0);
        Edge.is("150 by 150", old.ifSunk(0, 0, 150, 1), 1);
        Edge.says(FIRST, "times (100 and a fifth of what the degree is above 250, together, but at least 10), divided by"
                + " 100;");
        // No degree is below 0, so that 50 is the least that comes.
        int[][] dues = {{0, 50}, {4, 50}, {5, 51}, {245, 99}, {249, 99}, {250, 100}, {254, 100}, {255, 101}, {259, 101},
            {260, 102}, {900, 230}};
        for (int[] due : dues) {
            BitumenNeedle y = atDegree(100, due[0]);
            Edge.is("100 at " + due[0], y.ifSunk(0, 0, 110, 10), due[1]);
            Edge.is("4 at " + due[0], y.ifSunk(0, 0, 50, 1), 4 * due[1] / 100);
        }
    }

    private static void depthEnds() {
        Edge.says(FIRST, "less the wear;");
        BitumenNeedle x = Edge.warmed(100, 1);
        for (int time = 0; time < 9; time++) {
            Edge.is("500 by 11, less " + time, x.sink(0, 0, 100, 5), 45 - time);
        }
        Edge.is("without wear of another needle", x.ifSunk(1, 0, 100, 5), 45);
        BitumenNeedle cold = atDegree(100, 0);
        cold.sink(0, 0, 50, 1);
        Edge.is("50 percent of 101, and then less 1", cold.ifSunk(0, 0, 101, 11), 49);
        Edge.says(FIRST, "at least 0,");
        BitumenNeedle y = Edge.warmed(20, 2);
        Edge.is("0 less 0", y.ifSunk(0, 0, 50, 1), 0);
        y.sink(0, 0, 100, 5);
        Edge.is("1 less 1", y.ifSunk(0, 0, 51, 1), 0);
        Edge.is("0 less 1", y.ifSunk(0, 0, 50, 1), 0);
        y.sink(0, 0, 100, 5);
        Edge.is("1 less 2", y.sink(0, 0, 51, 1), 0);
        Edge.says(FIRST, "and at most 400.");
        BitumenNeedle z = Edge.warmed(300, 1);
        Edge.is("1599 by 4", z.ifSunk(0, 0, 123, 13), 399);
        Edge.is("1600 by 4", z.ifSunk(0, 0, 160, 10), 400);
        Edge.is("1605 by 4", z.ifSunk(0, 0, 107, 15), 400);
        Edge.is("12000 by 4", z.sink(0, 0, 200, 60), 400);
        z.sink(0, 0, 50, 1);
        Edge.is("400 less 1", z.ifSunk(0, 0, 160, 10), 399);
        Edge.is("401 less 1", z.ifSunk(0, 0, 107, 15), 400);
        Edge.is("3000 less 1", z.ifSunk(0, 0, 200, 60), 400);
    }

    private static void reasons() {
        Edge.says(FIRST, "It cannot sink for the first of these reasons that applies:");
        BitumenNeedle x = Edge.warmed(20, 1);
        x.sink(0, 0, 50, 1);
        for (int time = 0; time < 8; time++) {
            x.sink(1, 0, 200, 60);
        }
        Edge.is("9 readings and bent", x.noSink(0, 0), 1);
        Edge.is("9 readings", x.noSink(1, 0), 4);
        x.warm(0, 900);
        Edge.is("9 readings, not near and bent", x.noSink(0, 0), 1);
        Edge.is("9 readings and not near", x.noSink(1, 0), 3);
        x.bath(0, -1);
        Edge.is("9 readings, in no bath and bent", x.noSink(0, 0), 1);
        Edge.is("9 readings and in no bath", x.noSink(1, 0), 2);
        Edge.noState(x, "sink of a bent needle", () -> x.sink(0, 0, 100, 5));
        Edge.noState(x, "sink in no bath", () -> x.sink(1, 0, 100, 5));
    }

    private static void reasonsAlone() {
        Edge.says(FIRST, "1: the needle is bent;");
        BitumenNeedle x = Edge.warmed(20, 2);
        x.sink(0, 0, 51, 1);
        Edge.is("behind the depth 1", x.noSink(0, 0), 0);
        x.sink(0, 0, 51, 1);
        Edge.is("behind the depth 0", x.noSink(0, 0), 1);
        Edge.is("behind the depth 0, another sample", x.noSink(0, 1), 1);
        Edge.is("behind the depth 0, another needle", x.noSink(1, 0), 0);
        Edge.says(FIRST, "2: the sample lies in no bath;");
        BitumenNeedle y = Edge.samples(100, 1);
        Edge.is("a new sample", y.noSink(0, 0), 2);
        y.warm(0, 200);
        y.bath(0, 0);
        Edge.is("in a bath", y.noSink(0, 0), 0);
        y.bath(0, -1);
        Edge.is("out of it", y.noSink(0, 0), 2);
        Edge.says(FIRST, "3: its degree differs from that of its bath by more than setting 0;");
        int[][] dues = {{5, 205, 0}, {5, 206, 3}, {5, 195, 0}, {5, 194, 3}, {0, 200, 0}, {0, 201, 3}, {0, 199, 3},
            {50, 250, 0}, {50, 251, 3}, {50, 150, 0}, {50, 149, 3}};
        for (int[] due : dues) {
            BitumenNeedle z = Edge.samples(100, 1);
            z.set(0, due[0]);
            z.warm(0, due[1]);
            z.bath(0, 0);
            Edge.is("setting " + due[0] + ", 200 in a bath of " + due[1], z.noSink(0, 0), due[2]);
        }
        Edge.says(FIRST, "4: it has 9 readings.");
        BitumenNeedle w = Edge.warmed(300, 2);
        Edge.sink(w, 8, 0, 0);
        Edge.is("8 readings", w.noSink(1, 0), 0);
        Edge.sink(w, 1, 0, 0);
        Edge.is("9 readings", w.noSink(1, 0), 4);
        Edge.noState(w, "a tenth reading", () -> w.sink(1, 0, 100, 5));
        Edge.is("another sample", w.noSink(1, 1), 0);
    }

    private static void wear() {
        Edge.says(FIRST, "By each reading the needle's wear becomes 1 more, if the depth is below 50 (at most 20);");
        BitumenNeedle x = Edge.warmed(300, 3);
        Edge.is("200 by 4", x.sink(0, 0, 100, 2), 50);
        Edge.is("wear behind the depth 50", x.needle(0, 0), 0);
        Edge.is("199 by 4", x.sink(0, 0, 199, 1), 49);
        Edge.is("wear behind the depth 49", x.needle(0, 0), 1);
        Edge.is("200 by 4, less 1", x.sink(0, 0, 100, 2), 49);
        Edge.is("wear behind the depth 49 that was 50", x.needle(0, 0), 2);
        for (int time = 3; time < 21; time++) {
            x.sink(0, time / 9, 100, 1);
        }
        Edge.is("wear behind 20 below 50", x.needle(0, 0), 20);
        Edge.is("100 by 4, less 20", x.sink(0, 2, 100, 1), 5);
        Edge.is("wear behind 21 below 50", x.needle(0, 0), 20);
        Edge.says(FIRST, "with the depth 0 it is bent.");
        BitumenNeedle y = Edge.warmed(20, 1);
        Edge.is("51 by 51", y.sink(1, 0, 51, 1), 1);
        Edge.is("bent behind the depth 1", y.needle(1, 1), 0);
        Edge.is("51 by 51, less 1", y.sink(1, 0, 51, 1), 0);
        Edge.is("bent behind the depth 0", y.needle(1, 1), 1);
        Edge.is("its wear is 1 more, too", y.needle(1, 0), 2);
        Edge.is("the reading is kept, too", y.sampleOf(0, 4), 2);
    }

    private static void readings() {
        Edge.says(FIRST, "A reading has a needle, a depth, and the weight and the seconds.");
        BitumenNeedle x = Edge.warmed(100, 1);
        x.sink(2, 0, 200, 60);
        x.sink(0, 0, 50, 1);
        int[][] dues = {{2, 400, 200, 60}, {0, 4, 50, 1}};
        for (int what = 0; what < 4; what++) {
            Edge.is("reading(0, 0, " + what + ")", x.reading(0, 0, what), dues[0][what]);
            Edge.is("reading(0, 1, " + what + ")", x.reading(0, 1, what), dues[1][what]);
        }
        Edge.says(FIRST, "Readings of a sample are kept in their order.");
        BitumenNeedle y = Edge.warmed(300, 2);
        for (int reading = 0; reading < 9; reading++) {
            y.sink(reading % 3, 0, 100 + reading, 5);
            y.sink(0, 1, 200 - reading, 5);
        }
        for (int reading = 0; reading < 9; reading++) {
            Edge.is("weight of reading " + reading, y.reading(0, reading, 2), 100 + reading);
            Edge.is("needle of reading " + reading, y.reading(0, reading, 0), reading % 3);
            Edge.is("weight of the other's reading " + reading, y.reading(1, reading, 2), 200 - reading);
        }
    }

    private static void penetration() {
        Edge.says(FIRST, "The penetration of a sample is the mean of its latest three readings,");
        BitumenNeedle x = Edge.warmed(100, 1);
        Edge.sink(x, 2, 0, 0);
        Edge.is("of two", x.sampleOf(0, 5), -1);
        Edge.sink(x, 1, 1, 0);
        Edge.is("of 45, 44 and 45", x.sampleOf(0, 5), 44);
        Edge.sink(x, 1, 2, 0);
        Edge.is("of 44, 45 and 45", x.sampleOf(0, 5), 44);
        Edge.sink(x, 5, 0, 0);
        Edge.is("of 41, 40 and 39, with 9 readings", x.sampleOf(0, 5), 40);
        Edge.says(FIRST, "if these all have the weight 100 and the seconds 5,");
        int[][] loads = {{99, 5}, {101, 5}, {100, 4}, {100, 6}};
        for (int[] load : loads) {
            BitumenNeedle y = Edge.warmed(300, 1);
            y.set(1, 100);
            y.sink(0, 0, load[0], load[1]);
            Edge.sink(y, 2, 0, 0);
            Edge.is("the first of three with " + load[0] + " and " + load[1], y.sampleOf(0, 5), -1);
            Edge.is("and why", y.sampleOf(0, 6), 6);
            Edge.sink(y, 1, 0, 0);
            Edge.is("the fourth with 100 and 5", y.sampleOf(0, 5), 125);
            y.sink(0, 0, load[0], load[1]);
            Edge.is("the last with " + load[0] + " and " + load[1], y.sampleOf(0, 5), -1);
        }
        Edge.says(FIRST, "and do not lie apart: the greatest and the least depth differ by at most setting 1;");
        BitumenNeedle z = Edge.warmed(100, 1);
        Edge.sink(z, 3, 0, 0);
        z.set(1, 2);
        Edge.is("45, 44, 43 with 2", z.sampleOf(0, 5), 44);
        z.set(1, 1);
        Edge.is("45, 44, 43 with 1", z.sampleOf(0, 5), -1);
        Edge.sink(z, 1, 1, 0);
        z.set(1, 2);
        Edge.is("44, 43, 45 with 2", z.sampleOf(0, 5), 44);
        z.set(1, 1);
        Edge.is("44, 43, 45 with 1", z.sampleOf(0, 5), -1);
        z.set(1, 0);
        z.renew(0);
        z.renew(1);
        Edge.sink(z, 1, 0, 0);
        Edge.sink(z, 1, 1, 0);
        Edge.is("45, 45, 45 with 0", z.sampleOf(0, 5), 45);
        BitumenNeedle zero = threeOfNothing();
        zero.set(1, 0);
        Edge.is("0, 0, 0 with 0", zero.sampleOf(0, 5), 0);
        Edge.is("and why it has none", zero.sampleOf(0, 6), 0);
        Edge.is("samples with a penetration", zero.count(6), 1);
        Edge.is("the mean penetration", zero.drumOf(0, 4), 0);
        zero.bath(0, -1);
        zero.ring(0);
        Edge.is("the index, 0 and 43, less 8", zero.drumOf(0, 6), 1035);
        Edge.is("the index, the second way", zero.drumOf(0, 7), 1035);
    }

    /** Three cold samples; each needle is worn by another one before it sinks into the first, by nothing. */
    private static BitumenNeedle threeOfNothing() {
        BitumenNeedle x = Edge.samples(20, 3);
        x.warm(0, 0);
        for (int sample = 0; sample < 3; sample++) {
            x.bath(sample, 0);
        }
        x.pass(99);
        for (int needle = 0; needle < 3; needle++) {
            Edge.sink(x, 4, needle, 1 + needle / 2);
            Edge.is("4 less a wear of 4", x.sink(needle, 0, 100, 5), 0);
        }
        return x;
    }

    private static void penetrationRefused() {
        Edge.says(FIRST, "otherwise it has none, for the first of these reasons that applies:");
        BitumenNeedle x = Edge.warmed(300, 1);
        x.set(1, 0);
        x.sink(0, 0, 50, 1);
        x.sink(0, 0, 200, 60);
        Edge.is("too few, another load, apart", x.sampleOf(0, 6), 5);
        x.sink(0, 0, 100, 5);
        Edge.is("another load, apart", x.sampleOf(0, 6), 6);
        Edge.sink(x, 1, 1, 0);
        Edge.sink(x, 1, 0, 0);
        Edge.is("124, 125, 124, apart", x.sampleOf(0, 6), 7);
        Edge.says(FIRST, "5: it has fewer than three readings;");
        BitumenNeedle y = Edge.warmed(300, 1);
        for (int readings = 0; readings < 3; readings++) {
            Edge.is("with " + readings, y.sampleOf(0, 6), 5);
            Edge.sink(y, 1, 0, 0);
        }
        Edge.is("with 3", y.sampleOf(0, 6), 0);
        Edge.says(FIRST, "6: some of the latest three has another weight or other seconds;");
        int[] due = {6, 6, 6, 0};
        y.sink(0, 0, 100, 6);
        for (int more = 0; more < 4; more++) {
            Edge.is(more + " behind other seconds", y.sampleOf(0, 6), due[more]);
            Edge.sink(y, 1, 0, 0);
        }
        BitumenNeedle z = Edge.warmed(300, 1);
        z.sink(0, 0, 101, 5);
        for (int more = 0; more < 4; more++) {
            Edge.is(more + " behind another weight", z.sampleOf(0, 6), more < 2 ? 5 : due[more]);
            Edge.sink(z, 1, 0, 0);
        }
        Edge.says(FIRST, "7: they lie apart.");
        BitumenNeedle w = Edge.warmed(300, 1);
        Edge.sink(w, 2, 0, 0);
        w.warm(0, 350);
        w.pass(60);
        Edge.sink(w, 1, 0, 0);
        Edge.is("125, 125, 150 with 12", w.sampleOf(0, 6), 7);
        w.set(1, 24);
        Edge.is("125, 125, 150 with 24", w.sampleOf(0, 6), 7);
        w.set(1, 25);
        Edge.is("125, 125, 150 with 25", w.sampleOf(0, 6), 0);
        w.set(1, 0);
        Edge.sink(w, 1, 0, 0);
        Edge.is("125, 150, 150 with 0", w.sampleOf(0, 6), 7);
        Edge.sink(w, 1, 0, 0);
        Edge.is("150, 150, 150 with 0", w.sampleOf(0, 6), 0);
    }
}
