/** What the document says before its promises: orders as a text, undo, exceptions. EdgesTest runs it. */
final class TextTermsEdges {
    private static final int FIRST = Document.FIRST_PART;
    private static final String FIGURES = "0123456789";

    private TextTermsEdges() {
    }

    static void run() {
        buffer();
        parts();
        numbersInParts();
        figures();
        errors();
        errorsOfAnyLength();
        undoable();
        undoneWholly();
        savedStates();
        refusedCalls();
        exceptionsInOrder();
        noneAndLooks();
    }

    private static void buffer() {
        Edge.says(FIRST, "The buffer has at most 60 characters.");
        BitumenNeedle x = new BitumenNeedle();
        for (int length = 1; length <= 60; length++) {
            Edge.is("append", x.append('+'), length);
        }
        Edge.noState(x, "a 61st character", () -> x.append('+'));
        Edge.is("the length", x.clearBuffer(), 60);
        Edge.is("append behind that", x.append('+'), 1);
    }

    private static void errorIs(String text, int due) {
        Edge.is("firstError of " + text, Edge.type(new BitumenNeedle(), text).firstError(), due);
    }

    /** The text has no error, and only the signs that are given may stand behind it. */
    private static void onlyBehind(String text, String signs) {
        errorIs(text, text.length());
        for (char sign = 33; sign <= 126; sign++) {
            errorIs(text + sign, text.length() + (signs.indexOf(sign) >= 0 ? 1 : 0));
        }
    }

    private static void parts() {
        Edge.says(FIRST, "Orders as a text are one or more parts with \";\" between them:");
        BitumenNeedle x = Edge.drums(100);
        Edge.noArgument(x, "obey of no part", x::obey);
        Edge.is("obey of s0", Edge.type(x, "s0").obey(), 1);
        Edge.is("obey of s0;s0", Edge.type(x, "s0;s0").obey(), 2);
        Edge.type(x, "s0;");
        Edge.noArgument(x, "obey of s0;", x::obey);
        errorIs(";s0", 0);
        errorIs("s0;;s0", 3);
        errorIs("s0s0", 2);
        onlyBehind("", "sbno$+");
        onlyBehind("+9;", "sbno$+");
        Edge.says(FIRST, "\"s\" and a drum, 0 to 5 (a sample is taken);");
        onlyBehind("s", "012345");
        onlyBehind("s0", ";");
        onlyBehind("s5", ";");
        Edge.is("samples", x.count(1), 3);
        Edge.says(FIRST, "\"b\", a sample, 0 to 7, and a bath, 0 to 2, or \"-\" (the sample goes there, or out);");
        onlyBehind("b", "01234567");
        onlyBehind("b0", "012-");
        onlyBehind("b7", "012-");
        onlyBehind("b70", ";");
        onlyBehind("b02", ";");
        onlyBehind("b0-", ";");
        Edge.is("obey of b22;b10;b1-", Edge.type(x, "b22;b10;b1-").obey(), 3);
        Edge.is("the bath of sample 2", x.sampleOf(2, 3), 2);
        Edge.is("the bath of sample 1", x.sampleOf(1, 3), -1);
        Edge.says(FIRST, "\"n\", a needle, 0 to 2, a sample, 0 to 7, \"*\", a weight, 50 to 200, \"/\", and seconds, 1 to 60"
                + " (it sinks);");
        onlyBehind("n", "012");
        onlyBehind("n0", "01234567");
        onlyBehind("n2", "01234567");
        onlyBehind("n27", "*");
        onlyBehind("n00", "*");
        BitumenNeedle y = Edge.warmed(100, 1);
        Edge.is("obey of n20*200/60;n10*50/1", Edge.type(y, "n20*200/60;n10*50/1").obey(), 2);
        Edge.is("the depth of the first", y.reading(0, 0, 1), 400);
        Edge.is("the depth of the second", y.reading(0, 1, 1), 4);
        Edge.says(FIRST, "\"o\" and a sample (its ring is warmed);");
        onlyBehind("o", "01234567");
        onlyBehind("o0", ";");
        onlyBehind("o7", ";");
        Edge.is("obey of b0-;o0", Edge.type(y, "b0-;o0").obey(), 2);
        Edge.is("the softening", y.sampleOf(0, 7), 410);
        BitumenNeedle read = Edge.readTwice(100);
        Edge.is("obey of b1-;o1", Edge.type(read, "b1-;o1").obey(), 2);
        Edge.is("drums that are sold by it", read.count(4), 0);
        Edge.is("minutes that pass by it", read.count(5), 60);
        Edge.says(FIRST, "\"$\" and a drum (it is sold);");
        onlyBehind("$", "012345");
        onlyBehind("$0", ";");
        onlyBehind("$5", ";");
        BitumenNeedle z = Edge.sellable(100);
        Edge.is("obey of $0", Edge.type(z, "$0").obey(), 1);
        Edge.is("the class", z.drumOf(0, 8), 2);
        BitumenNeedle second = Edge.drums(20, 100);
        Edge.type(second, "s1;s1;b01;b11;+60;n00*100/5;n00*100/5;n00*100/5").obey();
        Edge.type(second, "n11*100/5;n11*100/5;n11*100/5;b0-;o0;$1").obey();
        Edge.is("the class of the second drum", second.drumOf(1, 8), 2);
        Edge.is("minutes that pass by it", second.count(5), 60);
    }

    /** Whether a number of that range begins with these figures. */
    private static boolean begins(String figures, int least, int most) {
        for (int number = least; number <= most; number++) {
            if (Integer.toString(number).startsWith(figures)) {
                return true;
            }
        }
        return false;
    }

    /** Each text of one to three figures stands for a number of that range, or has its error where it must. */
    private static void numberIs(String before, String behind, int least, int most) {
        for (int number = -99; number <= 999; number++) {
            // The negative ones stand for figures behind a leading zero.
            String figures = number < 0 ? "0" + -number : Integer.toString(number);
            int good = 0;
            while (good < figures.length() && begins(figures.substring(0, good + 1), least, most)) {
                good++;
            }
            boolean whole = good == figures.length() && number >= least && number <= most;
            errorIs(before + figures + behind, before.length() + good + (whole ? behind.length() : 0));
        }
    }

    private static void numbersInParts() {
        Edge.says(FIRST, "or \"+\" and minutes, 1 to 99;");
        onlyBehind("+", "123456789");
        onlyBehind("+1", FIGURES + ";");
        onlyBehind("+99", ";");
        numberIs("+", ";", 1, 99);
        BitumenNeedle x = new BitumenNeedle();
        Edge.is("obey of +1;+99", Edge.type(x, "+1;+99").obey(), 2);
        Edge.is("minutes", x.count(5), 100);
        Edge.says(FIRST, "numbers without a leading zero,");
        onlyBehind("n25*", "1256789");
        onlyBehind("n25*100/", "123456789");
        errorIs("+0", 1);
        errorIs("+01", 1);
        errorIs("n25*050/5", 4);
        errorIs("n25*100/05", 8);
        errorIs("s00", 2);
        errorIs("o07", 2);
        numberIs("n00*", "/", 50, 200);
        numberIs("n00*50/", ";", 1, 60);
    }

    private static void figures() {
        Edge.says(FIRST, "and nothing between figures of one letter, as n25*100/5 (needle 2, sample 5).");
        for (String text : new String[] {"n2,5*100/5", "n2;5*100/5", "n2*5*100/5", "n2-5*100/5", "n2/5*100/5"}) {
            errorIs(text, 2);
        }
        for (String text : new String[] {"b2,1", "b2;1", "b2*1", "b2/1"}) {
            errorIs(text, 2);
        }
        BitumenNeedle x = Edge.warmed(100, 6);
        Edge.is("obey of n25*100/5", Edge.type(x, "n25*100/5").obey(), 1);
        Edge.is("needle 2", x.needle(2, 2), 1);
        Edge.is("sample 5", x.sampleOf(5, 4), 1);
        Edge.is("100 grams", x.reading(5, 0, 2), 100);
        Edge.is("5 seconds", x.reading(5, 0, 3), 5);
    }

    private static void errors() {
        Edge.says(FIRST, "The buffer is read from left to right;");
        errorIs("s6;s7", 1);
        errorIs("s0;s7;s6", 4);
        errorIs("xyz", 0);
        errorIs("+1;+2;+3;+", 10);
        errorIs("+1;+2;+3;+x", 10);
        BitumenNeedle x = Edge.type(new BitumenNeedle(), "s0");
        x.append('0');
        Edge.is("s00", x.firstError(), 2);
        x.append(';');
        Edge.is("s00;", x.firstError(), 2);
        Edge.says(FIRST, "a character is a syntax error if no orders as a text, of any length, begin with the characters before"
                + " it and this character.");
        onlyBehind("n25*1", FIGURES);
        onlyBehind("n25*10", FIGURES);
        onlyBehind("n25*19", FIGURES);
        onlyBehind("n25*100", "/");
        onlyBehind("n25*199", "/");
        onlyBehind("n25*2", "0");
        onlyBehind("n25*20", "0");
        onlyBehind("n25*200", "/");
        onlyBehind("n25*5", FIGURES);
        onlyBehind("n25*50", "/");
        onlyBehind("n25*99", "/");
        onlyBehind("n25*50/1", FIGURES + ";");
        onlyBehind("n25*50/5", FIGURES + ";");
        onlyBehind("n25*50/6", "0;");
        onlyBehind("n25*50/7", ";");
        onlyBehind("n25*50/59", ";");
        onlyBehind("n25*50/60", ";");
    }

    private static void errorsOfAnyLength() {
        Edge.says(FIRST, "of any length, begin");
        String nineteen = "+1;+1;+1;+1;+1;+1;+1;+1;+1;+1;+1;+1;+1;+1;+1;+1;+1;+1;+1;";
        BitumenNeedle x = Edge.type(new BitumenNeedle(), nineteen + "n25");
        Edge.is("a part that has no room for its end", x.firstError(), 60);
        Edge.noArgument(x, "obey of it", x::obey);
        Edge.is("the buffer stays", x.clearBuffer(), 60);
        errorIs(nineteen + "$5;", 60);
        errorIs(nineteen + "b7;", 59);
        BitumenNeedle y = Edge.type(new BitumenNeedle(), nineteen + "+99");
        Edge.is("a full buffer", y.firstError(), 60);
        Edge.is("obey of it", y.obey(), 20);
        Edge.is("minutes", y.count(5), 118);
    }

    private static BitumenNeedle busy() {
        BitumenNeedle x = Edge.sellable(100);
        x.drum(20);
        x.sample(1);
        Edge.type(x, "s0;+1;s5").obey();
        return Edge.oneSaved(x);
    }

    private static void undoable() {
        Edge.says(FIRST, "Each method that is marked \"undoable\" and does not throw an exception saves the state from before it");
        BitumenNeedle x = busy();
        Edge.undoable(x, "drum(30)", () -> x.drum(30));
        Edge.undoable(x, "age(9)", () -> x.age(9));
        Edge.undoable(x, "sample(1)", () -> x.sample(1));
        Edge.undoable(x, "toss(0)", () -> x.toss(0));
        Edge.undoable(x, "bath(0, 2)", () -> x.bath(0, 2));
        Edge.undoable(x, "warm(2, 900)", () -> x.warm(2, 900));
        Edge.undoable(x, "pass(99)", () -> x.pass(99));
        Edge.undoable(x, "sink(2, 1, 60, 60)", () -> x.sink(2, 1, 60, 60));
        Edge.undoable(x, "renew(0)", () -> x.renew(0));
        Edge.undoable(x, "ring(2)", () -> x.ring(2));
        Edge.undoable(x, "sell(0)", () -> x.sell(0));
        Edge.undoable(x, "set(1, 0)", () -> x.set(1, 0));
        Edge.undoable(x, "restore()", x::restore);
        Edge.type(x, "s1;s1;s9");
        Edge.noArgument(x, "obey of no orders", x::obey);
        Edge.is("states saved behind a call that throws", x.count(11), 1);
        Edge.type(x, "s1;s5");
        x.obey();
        Edge.is("states saved behind obey", x.count(11), 2);
        Edge.says(FIRST, "(also if it changes nothing):");
        BitumenNeedle y = new BitumenNeedle();
        y.keep();
        Check.Call[] calls = {() -> y.age(1), () -> y.warm(0, 150), () -> y.renew(0), () -> y.set(0, 5), y::restore,
            () -> Edge.type(y, "s0").obey()};
        for (int call = 0; call < calls.length; call++) {
            calls[call].ask();
            Edge.is("states saved behind call " + call, y.count(11), call + 1);
        }
        BitumenNeedle z = Edge.oneSaved(Edge.samples(100, 1));
        z.bath(0, -1);
        Edge.is("states saved behind bath(0, NONE) in none", z.count(11), 2);
        z.ring(0);
        z.ring(0);
        Edge.is("states saved behind ring(0) two times", z.count(11), 4);
        z.undo();
        Edge.is("behind undo of the second, the softening", z.sampleOf(0, 7), 420);
    }

    private static void undoneWholly() {
        Edge.says(FIRST, "all, also the latest stop,");
        BitumenNeedle x = busy();
        long before = x.digest();
        Edge.is("the stop before", x.stopped(0) * 100 + x.stopped(1), 213);
        x.toss(0);
        x.age(50);
        x.warm(0, 1);
        x.set(2, 1);
        Edge.type(x, "+1").obey();
        Edge.is("no stop", x.stopped(0), -1);
        Edge.is("undo", x.undo(), 5);
        Edge.is("the stop is back", x.stopped(0) * 100 + x.stopped(1), 213);
        for (int left = 4; left >= 1; left--) {
            x.undo();
        }
        Edge.is("all is back", x.digest(), before);
        Edge.says(FIRST, "but the buffer, the saved states and the snapshot.");
        BitumenNeedle y = Edge.drums(100);
        Edge.type(y, "s0");
        y.sample(0);
        y.sample(0);
        y.keep();
        Edge.type(y, "s0;s0");
        Edge.is("undo", y.undo(), 2);
        Edge.is("undo again", y.undo(), 1);
        Edge.is("firstError of the buffer that stays", y.firstError(), 5);
        Edge.is("restore of the snapshot that stays", y.restore(), 2);
        Edge.is("saved states", y.count(11), 2);
    }

    private static void savedStates() {
        Edge.says(FIRST, "At most 6 states are saved;");
        BitumenNeedle x = new BitumenNeedle();
        for (int call = 1; call <= 40; call++) {
            x.pass(call);
            Edge.is("saved behind " + call, x.count(11), Math.min(call, 6));
        }
        Edge.says(FIRST, "the oldest one is dropped first.");
        int minutes = 820;
        for (int left = 5; left >= 0; left--) {
            minutes -= 35 + left;
            Edge.is("undo", x.undo(), left);
            Edge.is("minutes", x.count(5), minutes);
        }
        Edge.noState(x, "undo of the one that was dropped", x::undo);
        for (int call = 1; call <= 4; call++) {
            x.pass(1);
        }
        x.undo();
        x.undo();
        for (int call = 1; call <= 5; call++) {
            x.pass(10);
        }
        for (int left = 5; left >= 0; left--) {
            x.undo();
        }
        Edge.is("minutes when the first of seven is dropped", x.count(5), 596);
    }

    private static void refusedCalls() {
        Edge.says(FIRST, "A call that throws an exception changes nothing.");
        BitumenNeedle x = busy();
        x.keep();
        x.drum(30);
        Edge.type(x, "s0;s");
        Edge.noArgument(x, "drum(19)", () -> x.drum(19));
        Edge.noArgument(x, "age(100)", () -> x.age(100));
        Edge.noIndex(x, "sample(3)", () -> x.sample(3));
        Edge.noIndex(x, "toss(4)", () -> x.toss(4));
        Edge.noIndex(x, "bath(0, 3)", () -> x.bath(0, 3));
        Edge.noArgument(x, "warm(0, 901)", () -> x.warm(0, 901));
        Edge.noArgument(x, "pass(0)", () -> x.pass(0));
        Edge.noState(x, "sink(0, 0, 100, 5)", () -> x.sink(0, 0, 100, 5));
        Edge.noArgument(x, "sink(0, 1, 100, 61)", () -> x.sink(0, 1, 100, 61));
        Edge.noIndex(x, "renew(3)", () -> x.renew(3));
        Edge.noState(x, "ring(1)", () -> x.ring(1));
        Edge.noState(x, "sell(1)", () -> x.sell(1));
        Edge.noArgument(x, "set(2, 61)", () -> x.set(2, 61));
        Edge.noArgument(x, "append(32)", () -> x.append(32));
        Edge.noArgument(x, "obey()", x::obey);
        Edge.is("the buffer", x.firstError(), 4);
        Edge.is("undo, one state left", x.undo(), 1);
        Edge.is("drums", x.count(0), 2);
        Edge.is("restore, samples", x.restore(), 4);
        BitumenNeedle y = new BitumenNeedle();
        Edge.noState(y, "undo()", y::undo);
        Edge.noState(y, "restore()", y::restore);
        Edge.is("saved states", y.count(11), 0);
    }

    private static void exceptionsInOrder() {
        Edge.says(FIRST, "If several exceptions apply, the one that is named first in the throws clause is thrown.");
        BitumenNeedle x = Edge.samples(100, 8);
        for (int drum = 1; drum < 6; drum++) {
            x.drum(100);
        }
        Edge.noArgument(x, "drum(301) with 6 drums", () -> x.drum(301));
        Edge.noIndex(x, "sample(6) with 8 samples", () -> x.sample(6));
        for (int sample = 0; sample < 3; sample++) {
            x.bath(sample, 0);
        }
        Edge.noIndex(x, "bath(8, 0) into a full one", () -> x.bath(8, 0));
        Edge.noIndex(x, "warm(3, 901)", () -> x.warm(3, 901));
        Edge.noIndex(x, "sink(3, 0, 0, 0)", () -> x.sink(3, 0, 0, 0));
        Edge.noIndex(x, "sink(0, 8, 0, 0)", () -> x.sink(0, 8, 0, 0));
        Edge.noArgument(x, "sink(0, 7, 201, 5) in no bath", () -> x.sink(0, 7, 201, 5));
        Edge.noArgument(x, "sink(0, 7, 100, 0) in no bath", () -> x.sink(0, 7, 100, 0));
        Edge.noIndex(x, "set(3, -1)", () -> x.set(3, -1));
        Edge.noIndex(x, "drumOf(6, 9)", () -> x.drumOf(6, 9));
        Edge.noIndex(x, "sampleOf(8, 9)", () -> x.sampleOf(8, 9));
        Edge.noIndex(x, "reading(8, -1, 4)", () -> x.reading(8, -1, 4));
        Edge.noIndex(x, "needle(3, 3)", () -> x.needle(3, 3));
        Edge.noIndex(x, "bathOf(3, 3)", () -> x.bathOf(3, 3));
        Edge.noIndex(x, "ifSunk(0, 8, 0, 0)", () -> x.ifSunk(0, 8, 0, 0));
        Edge.noIndex(x, "secondsTo(3, 0, 0, 0)", () -> x.secondsTo(3, 0, 0, 0));
        for (int sign = 0; sign < 60; sign++) {
            x.append('s');
        }
        Edge.noArgument(x, "append(127) with 60 characters", () -> x.append(127));
    }

    private static void noneAndLooks() {
        Edge.says(FIRST, "The constants: `NONE = -1`: There is nothing to return.");
        BitumenNeedle x = new BitumenNeedle();
        Edge.is("NONE", BitumenNeedle.NONE, -1);
        Edge.is("age(1) without drums", x.age(1), BitumenNeedle.NONE);
        Edge.says(FIRST, "Ahead of the calls `drumOf`, `sampleOf`, `reading`, `needle`, `bathOf`, `count` the interface says:"
                + " ---- looks; nothing is changed.");
        BitumenNeedle y = busy();
        long before = y.digest();
        for (int what = 0; what <= 8; what++) {
            y.drumOf(0, what);
            y.sampleOf(0, what);
            y.reading(0, what, what % 4);
            y.needle(what % 3, what / 3);
            y.bathOf(what % 3, what / 3);
            y.count(what + 3);
        }
        Edge.is("the digest behind the looks", y.digest(), before);
        Edge.says(FIRST, "Ahead of the calls `noSink`, `noSale`, `ifSunk`, `secondsTo`, `readyIn`, `bestBath`, `readShare`,"
                + " `digest` the interface says: ---- what would be; nothing is changed.");
        y.noSink(0, 0);
        y.noSale(0);
        y.ifSunk(0, 0, 200, 60);
        y.ifSunk(0, 0, 50, 1);
        y.secondsTo(0, 0, 50, 400);
        for (int sample = 0; sample < 4; sample++) {
            y.readyIn(sample);
            y.bestBath(sample);
        }
        y.readShare();
        Edge.is("the digest behind what would be", y.digest(), before);
        Edge.is("the states saved", y.count(11), 1);
    }
}
