/** What the document says before its promises: rings, drums that are sold, settings. EdgesTest runs it. */
final class SaleTermsEdges {
    private static final int FIRST = Document.FIRST_PART;

    private SaleTermsEdges() {
    }

    static void run() {
        softening();
        refusedRing();
        saleOnce();
        saleReasons();
        saleIndex();
        index();
        means();
        secondWay();
        classes();
        settings();
    }

    private static void softening() {
        Edge.says(FIRST, "A ring of a sample is warmed, until its ball falls: the softening is 300 and 12 times the hardness,"
                + " together, less 5 for each reading that the sample has,");
        for (int readings = 0; readings <= 9; readings++) {
            BitumenNeedle x = Edge.warmed(100, 1);
            Edge.sink(x, readings, 0, 0);
            x.bath(0, -1);
            Edge.is("hardness 10, " + readings + " readings", x.ring(0), 420 - 5 * readings);
        }
        BitumenNeedle old = Edge.drums(20);
        for (int time = 0; time < 11; time++) {
            old.age(99);
        }
        old.sample(0);
        Edge.is("hardness 149, the greatest", old.ring(0), 2088);
        Edge.says(FIRST, "but at least 250.");
        BitumenNeedle least = Edge.warmed(300, 1);
        Edge.sink(least, 9, 0, 0);
        least.bath(0, -1);
        Edge.is("hardness 3 and 9 readings, the least that can come", least.ring(0), 291);
    }

    private static void refusedRing() {
        Edge.says(FIRST, "It can be asked only if the sample lies in no bath (otherwise it is refused for the reason 8,");
        BitumenNeedle x = Edge.samples(100, 2);
        for (int bath = 0; bath < 3; bath++) {
            x.bath(0, bath);
            Edge.noState(x, "ring(0) in bath " + bath, () -> x.ring(0));
            Edge.is("its softening", x.sampleOf(0, 7), -1);
            Edge.type(x, "o0").obey();
            Edge.is("the reason", x.stopped(1), 8);
        }
        Edge.is("the other sample", x.ring(1), 420);
        x.bath(0, -1);
        Edge.is("ring(0) in no bath", x.ring(0), 420);
        Edge.says(FIRST, "also if it is kept already);");
        x.bath(0, 2);
        Edge.noState(x, "ring(0) again, in a bath", () -> x.ring(0));
        Edge.type(x, "o0").obey();
        Edge.is("the reason", x.stopped(1), 8);
        Edge.is("it is kept", x.sampleOf(0, 7), 420);
        Edge.says(FIRST, "it is kept then, as it was asked first.");
        BitumenNeedle y = Edge.warmed(100, 1);
        y.bath(0, -1);
        Edge.is("without readings", y.ring(0), 420);
        y.bath(0, 0);
        Edge.sink(y, 3, 0, 0);
        y.age(99);
        y.bath(0, -1);
        Edge.is("asked again with 3 readings", y.ring(0), 420);
        Edge.is("kept", y.sampleOf(0, 7), 420);
        y.sample(0);
        Edge.is("of a sample taken later", y.ring(1), 300 + 12 * 19);
    }

    private static void saleOnce() {
        Edge.says(FIRST, "A drum can be sold once,");
        BitumenNeedle x = Edge.sellable(100);
        Edge.is("noSale(0)", x.noSale(0), 0);
        x.sell(0);
        Edge.is("noSale(0) behind it", x.noSale(0), 15);
        Edge.noState(x, "sell(0) again", () -> x.sell(0));
        x.set(2, 60);
        x.toss(0);
        x.toss(0);
        Edge.is("noSale(0) when nothing of it is left", x.noSale(0), 15);
        x.drum(100);
        Edge.is("noSale(1) of another drum", x.noSale(1), 9);
    }

    private static void saleReasons() {
        Edge.says(FIRST, "if at least 2 samples of it have a penetration (else reason 9),");
        BitumenNeedle x = Edge.warmed(100, 3);
        Edge.is("of none", x.noSale(0), 9);
        Edge.sink(x, 2, 0, 0);
        Edge.sink(x, 1, 1, 0);
        Edge.is("of one", x.noSale(0), 9);
        Edge.noState(x, "sell(0) with one", () -> x.sell(0));
        Edge.sink(x, 2, 1, 1);
        Edge.is("of one, and two readings", x.noSale(0), 9);
        Edge.sink(x, 1, 1, 1);
        Edge.is("of two", x.noSale(0), 11);
        x.drum(100);
        x.sample(1);
        Edge.is("of none, of another drum", x.noSale(1), 9);
        Edge.says(FIRST, "these were read, in their latest three readings together, with at least 2 needles (else reason 10),");
        BitumenNeedle y = Edge.warmed(100, 3);
        Edge.sink(y, 1, 1, 0);
        Edge.sink(y, 2, 0, 0);
        Edge.sink(y, 3, 0, 1);
        Edge.sink(y, 2, 2, 2);
        Edge.is("two needles", y.noSale(0), 11);
        Edge.sink(y, 1, 0, 0);
        Edge.is("one needle in the latest three, others in older ones and in a sample with two", y.noSale(0), 10);
        Edge.noState(y, "sell(0) with one needle", () -> y.sell(0));
        Edge.sink(y, 1, 2, 2);
        Edge.is("two needles again, of three samples", y.noSale(0), 11);
        for (int needle = 0; needle < 3; needle++) {
            BitumenNeedle one = Edge.warmed(100, 2);
            Edge.sink(one, 3, needle, 0);
            Edge.sink(one, 3, needle, 1);
            Edge.is("needle " + needle + " alone", one.noSale(0), 10);
            Edge.sink(one, 1, (needle + 1) % 3, 1);
            Edge.is("and another", one.noSale(0), 11);
        }
        Edge.says(FIRST, "some sample of it has a softening (else reason 11),");
        BitumenNeedle z = Edge.readTwice(100);
        z.sample(0);
        z.drum(100);
        z.sample(1);
        z.ring(3);
        Edge.is("a softening of another drum's sample", z.noSale(0), 11);
        Edge.noState(z, "sell(0) without a softening", () -> z.sell(0));
        z.ring(2);
        Edge.is("a softening of a sample without readings", z.noSale(0), 0);
        z.toss(2);
        Edge.is("when that is thrown away", z.noSale(0), 11);
    }

    private static void saleIndex() {
        Edge.says(FIRST, "and its index is -20 to 20 (else reason 12).");
        BitumenNeedle x = Edge.sellable(100);
        int[][] low = {{18, 981, 0}, {19, 980, 0}, {20, 979, 12}, {60, 939, 12}};
        for (int[] each : low) {
            x.set(2, each[0]);
            Edge.is("4 and -5, less " + each[0], x.drumOf(0, 6), each[1]);
            Edge.is("noSale(0) less " + each[0], x.noSale(0), each[2]);
        }
        Edge.noState(x, "sell(0) of a low index", () -> x.sell(0));
        BitumenNeedle y = Edge.sellable(32);
        Edge.is("mean penetration", y.drumOf(0, 4), 14);
        Edge.is("mean softening", y.drumOf(0, 5), 657);
        int[][] high = {{2, 1019, 0}, {1, 1020, 0}, {0, 1021, 12}};
        for (int[] each : high) {
            y.set(2, each[0]);
            Edge.is("1 and 20, less " + each[0], y.drumOf(0, 6), each[1]);
            Edge.is("noSale(0) less " + each[0], y.noSale(0), each[2]);
        }
        Edge.noState(y, "sell(0) of a high index", () -> y.sell(0));
        y.set(2, 1);
        Edge.is("sell(0) of 20", y.sell(0), 0);
    }

    /** The means and the index of a drum of that softness, both of whose samples were read with a new needle. */
    private static void indexIs(int softness, int penetration, int softening, int due) {
        BitumenNeedle x = Edge.sellable(softness);
        x.set(2, 0);
        Edge.is("mean penetration of softness " + softness, x.drumOf(0, 4), penetration);
        Edge.is("mean softening of softness " + softness, x.drumOf(0, 5), softening);
        Edge.is("index of softness " + softness, x.drumOf(0, 6), 1000 + due);
        Edge.is("and less 60", x.set(2, 60) + x.drumOf(0, 6), 1000 + due - 60);
    }

    private static void index() {
        Edge.says(FIRST, "The index of a drum is: the mean of the penetrations of its samples, divided by 10, and the mean of"
                + " their softenings, less 450, divided by 10, together, less setting 2.");
        indexIs(20, 8, 885, 0 + 43);
        indexIs(32, 14, 657, 1 + 20);
        indexIs(64, 30, 465, 3 + 1);
        indexIs(67, 32, 453, 3 + 0);
        indexIs(72, 34, 441, 3 - 1);
        indexIs(80, 37, 429, 3 - 3);
        indexIs(58, 26, 489, 2 + 3);
        indexIs(100, 44, 405, 4 - 5);
        indexIs(125, 55, 381, 5 - 7);
        indexIs(300, 125, 321, 12 - 13);
    }

    private static void means() {
        Edge.says(FIRST, "(Means of those that there are.)");
        BitumenNeedle x = Edge.warmed(100, 4);
        Edge.is("no penetration", x.drumOf(0, 4), -1);
        Edge.is("no softening", x.drumOf(0, 5), -1);
        Edge.sink(x, 3, 0, 0);
        Edge.is("one penetration of four samples", x.drumOf(0, 4), 44);
        Edge.sink(x, 3, 0, 1);
        Edge.is("44 and 41 of four samples", x.drumOf(0, 4), 42);
        x.bath(0, -1);
        Edge.is("ring(0)", x.ring(0), 405);
        Edge.is("one softening of four samples", x.drumOf(0, 5), 405);
        x.bath(3, -1);
        Edge.is("ring(3)", x.ring(3), 420);
        Edge.is("405 and 420 of four samples", x.drumOf(0, 5), 412);
        Edge.is("4 and -4, less 8", x.drumOf(0, 6), 992);
    }

    private static void secondWay() {
        Edge.says(FIRST, "It is told a second time by going through the readings: of each sample with a penetration its three"
                + " depths are summed and divided by 3, and so on; both agree.");
        BitumenNeedle x = Edge.warmed(100, 3);
        x.sink(1, 0, 200, 60);
        Edge.is("without a penetration", x.drumOf(0, 7), -1);
        Edge.sink(x, 3, 0, 0);
        Edge.is("without a softening", x.drumOf(0, 7), -1);
        Edge.sink(x, 3, 0, 1);
        Edge.sink(x, 2, 2, 2);
        x.bath(2, -1);
        x.ring(2);
        Edge.is("mean penetration of 44 and 41", x.drumOf(0, 4), 42);
        Edge.is("mean softening", x.drumOf(0, 5), 410);
        Edge.is("the first way", x.drumOf(0, 6), 4 - 4 - 8 + 1000);
        Edge.is("the second way", x.drumOf(0, 7), 4 - 4 - 8 + 1000);
        x.set(1, 1);
        indexesAre(24, 0, 10, 777, 1 + 32);
        indexesAre(22, 1, 9, 825, 0 + 37);
        Edge.is("the first way when all lie apart", x.drumOf(0, 6), -1);
        Edge.is("the second way when all lie apart", x.drumOf(0, 7), -1);
    }

    /** Both ways of the index of a drum whose only sample is read with one needle, and two times with needle 0. */
    private static void indexesAre(int softness, int first, int penetration, int softening, int due) {
        BitumenNeedle x = Edge.warmed(softness, 1);
        Edge.sink(x, 1, first, 0);
        Edge.sink(x, 2, 0, 0);
        x.bath(0, -1);
        x.ring(0);
        x.set(2, 0);
        Edge.is("mean penetration of softness " + softness, x.drumOf(0, 4), penetration);
        Edge.is("mean softening of softness " + softness, x.drumOf(0, 5), softening);
        Edge.is("the first way of softness " + softness, x.drumOf(0, 6), 1000 + due);
        Edge.is("the second way of softness " + softness, x.drumOf(0, 7), 1000 + due);
    }

    private static void classes() {
        Edge.says(FIRST, "The class of a drum that is sold is its mean penetration, as it was then, divided by 20.");
        int[][] dues = {{32, 14, 0}, {43, 19, 0}, {45, 20, 1}, {80, 37, 1}, {90, 40, 2}, {300, 125, 6}};
        for (int[] due : dues) {
            BitumenNeedle x = Edge.sellable(due[0]);
            x.set(2, due[0] < 40 ? 10 : 0);
            Edge.is("mean penetration of softness " + due[0], x.drumOf(0, 4), due[1]);
            Edge.is("class of softness " + due[0], x.sell(0), due[2]);
            Edge.is("kept", x.drumOf(0, 8), due[2]);
        }
        BitumenNeedle y = Edge.sellable(300);
        y.sell(0);
        y.set(1, 0);
        y.sink(1, 1, 50, 5);
        Edge.is("one penetration is left", y.count(6), 1);
        y.toss(0);
        Edge.is("no penetration is left", y.drumOf(0, 4), -1);
        Edge.is("the class as it was then", y.drumOf(0, 8), 6);
        Edge.says(FIRST, "Samples of it can still be taken and read.");
        Edge.is("sample(0) of a drum that is sold", y.sample(0), 1);
        y.bath(1, 0);
        y.pass(60);
        Edge.is("sink into it", y.sink(2, 1, 100, 5), 125);
        y.bath(1, -1);
        Edge.is("its ring", y.ring(1), 331);
        Edge.is("its samples", y.drumOf(0, 3), 2);
    }

    private static void settings() {
        Edge.says(FIRST, "0: tenths of a degree, 0 to 50, at first 5;");
        settingIs(0, 50, 5);
        Edge.says(FIRST, "1: tenths of a millimetre, 0 to 100, at first 12;");
        settingIs(1, 100, 12);
        Edge.says(FIRST, "2: 0 to 60, at first 8.");
        settingIs(2, 60, 8);
    }

    private static void settingIs(int setting, int most, int first) {
        BitumenNeedle x = new BitumenNeedle();
        Edge.is("at first", x.count(8 + setting), first);
        Edge.noArgument(x, "-1", () -> x.set(setting, -1));
        Edge.noArgument(x, "one above " + most, () -> x.set(setting, most + 1));
        Edge.is("to the greatest", x.set(setting, most), first);
        Edge.is("the greatest", x.count(8 + setting), most);
        Edge.is("to 0", x.set(setting, 0), most);
        Edge.is("0", x.count(8 + setting), 0);
        for (int other = 0; other < 3; other++) {
            Edge.is("setting " + other, x.count(8 + other), other == setting ? 0 : new int[] {5, 12, 8}[other]);
        }
    }
}
