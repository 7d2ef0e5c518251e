/** Promises 14 to 18 at their boundaries. EdgesTest runs it. */
final class TextsEdges {
    private TextsEdges() {
    }

    static void run() {
        promise14();
        promise15();
        promise16();
        promise17();
        promise17Undo();
        promise17Refused();
        promise18();
        promise18Reasons();
        promise18Answers();
    }

    private static void promise14() {
        Edge.says(14, "Appends a character to the buffer.");
        BitumenNeedle x = new BitumenNeedle();
        x.append('+');
        x.append('9');
        Edge.is("obey()", x.obey(), 1);
        Edge.is("minutes", x.count(5), 9);
        Edge.says(14, "- `code`: the character code, 33 to 126");
        Edge.is("append(33)", x.append(33), 1);
        Edge.is("append(126)", x.append(126), 2);
        Edge.says(14, "Returns the new length of the buffer.");
        for (int length = 3; length <= 60; length++) {
            Edge.is("append", x.append(64), length);
        }
        Edge.says(14, "Throws `IllegalArgumentException` if code is not 33 to 126");
        BitumenNeedle y = new BitumenNeedle();
        for (int code : new int[] {32, 127, 0, -1, 10, 160, 33 + 256, 's' + 65536, '+' - 65536, Integer.MIN_VALUE,
            Integer.MAX_VALUE}) {
            Edge.noArgument(y, "append(" + code + ")", () -> y.append(code));
            Edge.noArgument(x, "append(" + code + ") with 60", () -> x.append(code));
        }
        Edge.is("nothing is appended", y.clearBuffer(), 0);
        Edge.says(14, "Throws `IllegalStateException` if the buffer has 60 characters");
        Edge.noState(x, "append(33) with 60", () -> x.append(33));
        Edge.noState(x, "append(126) with 60", () -> x.append(126));
        Edge.is("60 stay", x.clearBuffer(), 60);
        Edge.is("states saved by texts", x.count(11), 1);
    }

    private static void promise15() {
        Edge.says(15, "Clears the buffer.");
        BitumenNeedle x = Edge.type(new BitumenNeedle(), "s6");
        Edge.is("firstError() before", x.firstError(), 1);
        x.clearBuffer();
        Edge.is("firstError() behind", x.firstError(), 0);
        x.append('+');
        x.append('1');
        Edge.is("obey() of what comes then", x.obey(), 1);
        Edge.says(15, "Returns the length that it had.");
        Edge.is("of an empty one", x.clearBuffer(), 0);
        x.append('s');
        Edge.is("of one", x.clearBuffer(), 1);
        for (int length = 0; length < 60; length++) {
            x.append('s');
        }
        Edge.is("of a full one", x.clearBuffer(), 60);
        Edge.is("again", x.clearBuffer(), 0);
        Edge.is("states saved", x.count(11), 1);
    }

    private static void promise16() {
        Edge.says(16, "Finds the first syntax error of the buffer.");
        BitumenNeedle x = Edge.type(new BitumenNeedle(), "s9;b9;");
        Edge.is("s9;b9;", x.firstError(), 1);
        Edge.is("again", x.firstError(), 1);
        Edge.says(16, "Returns the index of the first character that is a syntax error;");
        Edge.is("at the first place", Edge.type(x, "-").firstError(), 0);
        Edge.is("at the last place", Edge.type(x, "n25*100/5n").firstError(), 9);
        Edge.is("at the place 58", Edge.type(x, "+1;".repeat(19) + "b9-").firstError(), 58);
        Edge.is("at the last place of 60", Edge.type(x, "+1;".repeat(19) + "b7x").firstError(), 59);
        Edge.says(16, "the length of the buffer if there is none.");
        Edge.is("an empty buffer", Edge.type(x, "").firstError(), 0);
        Edge.is("complete orders", Edge.type(x, "n25*100/5").firstError(), 9);
        Edge.is("orders that are not complete", Edge.type(x, "n25*100/").firstError(), 8);
        Edge.is("60 characters", Edge.type(x, "+1;".repeat(20)).firstError(), 60);
        Edge.is("orders for drums and samples that are not there", Edge.type(x, "s5;b7-;o7;$5").firstError(), 12);
    }

    private static void promise17() {
        Edge.says(17, "Does what the buffer tells, part by part, up to the first part for which the method would throw an"
                + " exception,");
        BitumenNeedle x = Edge.drums(100);
        Edge.type(x, "s0;b01;+14;n10*100/5;b0-;o0;s1;s0").obey();
        Edge.is("samples", x.count(1), 1);
        Edge.is("minutes", x.count(5), 14);
        Edge.is("its degree", x.sampleOf(0, 2), 250);
        Edge.is("its depth", x.reading(0, 0, 1), 45);
        Edge.is("its bath", x.sampleOf(0, 3), -1);
        Edge.is("its softening", x.sampleOf(0, 7), 415);
        Edge.type(x, "s1;s0").obey();
        Edge.is("samples when the first part stops it", x.count(1), 1);
        Edge.is("a part that needs one before it", Edge.type(x, "s0;b10;b1-").obey(), 3);
        Edge.says(17, "and clears the buffer.");
        Edge.is("the buffer", x.clearBuffer(), 0);
        Edge.type(x, "s1").obey();
        Edge.is("the buffer when nothing is done", x.clearBuffer(), 0);
        Edge.says(17, "Returns how many parts are done.");
        Edge.is("none", Edge.type(x, "s5;+1").obey(), 0);
        Edge.is("one of two", Edge.type(x, "+1;s5").obey(), 1);
        Edge.is("two of two", Edge.type(x, "+1;+1").obey(), 2);
        Edge.is("20 of 20", Edge.type(x, "+1;".repeat(19) + "+1").obey(), 20);
        Edge.is("19 of 20", Edge.type(x, "+1;".repeat(19) + "s5").obey(), 19);
        Edge.says(17, "The latest stop is that of this call then, or none, if all are done.");
        Edge.is("the part", x.stopped(0), 19);
        Edge.is("the reason", x.stopped(1), 13);
        Edge.type(x, "b0-;b00;o0").obey();
        Edge.is("the part of a later stop", x.stopped(0), 2);
        Edge.is("the reason of a later stop", x.stopped(1), 8);
        Edge.type(x, "+1").obey();
        Edge.is("the part if all are done", x.stopped(0), -1);
        Edge.is("the reason if all are done", x.stopped(1), -1);
    }

    private static void promise17Undo() {
        Edge.says(17, "Undoable, as one call, also if nothing is done.");
        BitumenNeedle x = Edge.drums(100);
        long before = x.digest();
        Edge.type(x, "s0;s0;+9;b00;b11").obey();
        Edge.is("states saved by five parts", x.count(11), 2);
        Edge.is("undo", x.undo(), 1);
        Edge.is("the digest behind undo", x.digest(), before);
        Edge.type(x, "s5").obey();
        Edge.is("states saved by no part", x.count(11), 2);
        Edge.is("the stop", x.stopped(1), 13);
        x.undo();
        Edge.is("the stop behind undo", x.stopped(1), -1);
        Edge.is("the digest behind undo", x.digest(), before);
        for (int call = 0; call < 7; call++) {
            Edge.type(x, "+1;+1").obey();
        }
        Edge.is("states saved by 7 calls", x.count(11), 6);
        for (int left = 5; left >= 0; left--) {
            Edge.is("undo", x.undo(), left);
        }
        Edge.is("minutes", x.count(5), 2);
    }

    private static void promise17Refused() {
        Edge.says(17, "Throws `IllegalArgumentException` if the buffer is not complete orders as a text (the buffer stays)");
        for (String text : new String[] {"", "s", "s0;", "b", "b0", "n", "n0", "n00", "n00*", "n00*1", "n00*10", "n00*100",
            "n00*100/", "n00*20", "n00*5", "o", "$", "+", ";", "x", "s6", "+1;;+1", "+1;x", "s0s", "+100",
            "+1;".repeat(20), "+1;".repeat(19) + "n25"}) {
            BitumenNeedle x = Edge.drums(100);
            Edge.type(x, text);
            int error = x.firstError();
            Edge.noArgument(x, "obey of \"" + text + "\"", x::obey);
            Edge.is("nothing is done of it", x.count(1) + x.count(5), 0);
            Edge.is("no state is saved", x.count(11), 1);
            Edge.is("its first error stays", x.firstError(), error);
            Edge.is("its length stays", x.clearBuffer(), text.length());
        }
    }

    private static void promise18() {
        Edge.says(18, "Tells of the latest stop of obey().");
        BitumenNeedle x = new BitumenNeedle();
        Edge.type(x, "+1;s0").obey();
        Edge.type(x, "o0").obey();
        Edge.is("the part", x.stopped(0), 0);
        Edge.is("the reason", x.stopped(1), 13);
        x.drum(100);
        Edge.noIndex(x, "ring(0)", () -> x.ring(0));
        Edge.is("the part behind other calls", x.stopped(0), 0);
        x.undo();
        x.undo();
        Edge.is("the part of the stop before", x.stopped(0), 1);
        Edge.says(18, "- `what`: 0: the number of the part that stopped it, from 0;");
        Edge.type(x, "s5").obey();
        Edge.is("the first", x.stopped(0), 0);
        Edge.type(x, "+1;".repeat(19) + "s0").obey();
        Edge.is("the twentieth", x.stopped(0), 19);
        Edge.says(18, "Throws `IllegalArgumentException` if what is neither 0 nor 1");
        for (int what : new int[] {-1, 2, Integer.MIN_VALUE, Integer.MAX_VALUE}) {
            Edge.noArgument(x, "stopped(" + what + ")", () -> x.stopped(what));
        }
        Edge.says(18, "NONE if there is no stop.");
        BitumenNeedle y = new BitumenNeedle();
        Edge.is("stopped(0) of a new object", y.stopped(0), -1);
        Edge.is("stopped(1) of a new object", y.stopped(1), -1);
        Edge.type(y, "s0").obey();
        Edge.type(y, "+1").obey();
        Edge.is("stopped(0) when all are done", y.stopped(0), -1);
        Edge.is("stopped(1) when all are done", y.stopped(1), -1);
    }

    private static void stops(BitumenNeedle x, String text, int part, int reason) {
        Edge.is("done of " + text, Edge.type(x, text).obey(), part);
        Edge.is("the part of " + text, x.stopped(0), part);
        Edge.is("the reason of " + text, x.stopped(1), reason);
    }

    private static void promise18Reasons() {
        Edge.says(18, "1: the reason, 1 to 4, 8 to 12;");
        BitumenNeedle x = Edge.warmed(20, 2);
        stops(x, "n00*50/1;n00*50/1", 1, 1);
        stops(x, "b0-;n10*100/5", 1, 2);
        stops(x, "b02;n10*100/5", 1, 3);
        Edge.type(x, "b00;n10*60/60;n10*60/60;n10*60/60;n10*60/60;n10*60/60").obey();
        Edge.is("readings", x.sampleOf(0, 4), 6);
        stops(x, "n10*60/60;n10*60/60;n10*60/60;n10*60/60", 3, 4);
        stops(x, "b0-;o0;b00;o0", 3, 8);
        stops(x, "o1", 0, 8);
        BitumenNeedle y = Edge.warmed(100, 2);
        stops(y, "n00*100/5;n00*100/5;n00*100/5;$0", 3, 9);
        stops(y, "n01*100/5;n01*100/5;n01*100/5;$0", 3, 10);
        stops(y, "n11*100/5;$0", 1, 11);
        y.set(2, 20);
        stops(y, "b0-;o0;$0", 2, 12);
        Edge.says(18, "13 if there is no such drum or sample;");
        BitumenNeedle z = new BitumenNeedle();
        for (String text : new String[] {"s0", "s5", "$0", "$5", "b00", "b7-", "n00*50/1", "n27*200/60", "o0", "o7"}) {
            stops(z, text, 0, 13);
        }
        z.drum(20);
        stops(z, "s1", 0, 13);
        stops(z, "s0;b10", 1, 13);
        stops(z, "b1-", 0, 13);
        stops(z, "n01*50/1", 0, 13);
        stops(z, "o1", 0, 13);
        stops(z, "$1", 0, 13);
        stops(z, "s0;s0;s0;s0;s0;s0;s0;s1", 7, 13);
    }

    private static void promise18Answers() {
        Edge.says(18, "14 if there is no room (for a sample, or in a bath);");
        BitumenNeedle x = Edge.drums(100);
        stops(x, "s0;s0;s0;s0;s0;s0;s0;s0;s0", 8, 14);
        stops(x, "b00;b10;b20;b20;b30", 4, 14);
        stops(x, "s0", 0, 14);
        Edge.is("samples", x.count(1), 8);
        stops(x, "b2-;b30;b20", 2, 14);
        Edge.says(18, "15 if the drum is sold already");
        BitumenNeedle y = Edge.sellable(100);
        stops(y, "$0;+1;$0", 2, 15);
        y.toss(0);
        stops(y, "$0", 0, 15);
        Edge.says(18, "Returns the number;");
        Edge.is("stopped(0)", y.stopped(0), 0);
        Edge.is("stopped(1)", y.stopped(1), 15);
    }
}
