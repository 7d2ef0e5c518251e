/** Promises 14 to 18: the buffer, orders as a text. */
final class TextsTest {
    private TextsTest() {
    }

    public static void main(String[] args) {
        promise14();
        promise15();
        promise16();
        promise17();
        promise17Whole();
        promise18();
        promise18Reasons();
        Check.finish("TextsTest");
    }

    static BitumenNeedle type(BitumenNeedle x, String text) {
        x.clearBuffer();
        for (int i = 0; i < text.length(); i++) {
            x.append(text.charAt(i));
        }
        return x;
    }

    private static void promise14() {
        BitumenNeedle x = new BitumenNeedle();
        Check.noArgument("14: 32", () -> x.append(32));
        Check.noArgument("14: 127", () -> x.append(127));
        Check.noArgument("14: far", () -> x.append('s' + 65536));
        Check.equal("14: 33", x.append(33), 1);
        Check.equal("14: 126", x.append(126), 2);
        for (int i = 3; i <= 60; i++) {
            Check.equal("14: length", x.append('s'), i);
        }
        Check.noState("14: full", () -> x.append('s'));
        Check.noArgument("14: full, 32", () -> x.append(32));
        Check.equal("14: nothing saved", x.count(11), 0);
        Check.equal("14: 60 stay", x.clearBuffer(), 60);
    }

    private static void promise15() {
        BitumenNeedle x = new BitumenNeedle();
        x.drum(60);
        Check.equal("15: empty", x.clearBuffer(), 0);
        type(x, "s0;s");
        Check.equal("15: four", x.clearBuffer(), 4);
        Check.equal("15: cleared", x.clearBuffer(), 0);
        Check.equal("15: nothing saved", x.count(11), 1);
        type(x, "s0");
        x.undo();
        Check.equal("15: undo leaves the buffer", x.clearBuffer(), 2);
        type(x, "+1");
        x.keep();
        type(x, "+1;+2");
        x.restore();
        Check.equal("15: restore leaves the buffer", x.clearBuffer(), 5);
    }

    private static void promise16() {
        String[] good = {"", "s", "s0", "s5", "b0", "b70", "b72", "b7-", "n", "n00", "n27*", "n25*100/5", "n00*50/1",
            "n00*5", "n00*99/60", "n00*1", "n00*10", "n00*199/59", "n00*200/6", "n00*2", "n00*20", "o0", "o7", "$0",
            "$5", "+1", "+99", "+10;", "s0;s0;s0", "s0;b0-;n00*50/9;o7;$5;+9;"};
        for (String text : good) {
            Check.equal("16: " + text, type(new BitumenNeedle(), text).firstError(), text.length());
        }
        // Each text with the place of its first error.
        String[] bad = {"0:;", "0:0", "0:-", "0:S", "0:~", "1:ss", "1:s6", "1:s-", "1:s;", "2:s00", "2:s0-", "1:b8",
            "2:b03", "2:b0;", "2:b0*", "3:b0-0", "3:b0--", "3:b000", "1:n3", "2:n08", "2:n0*", "3:n001", "3:n00/",
            "4:n00*0", "4:n00*4", "4:n00*/", "5:n00*21", "5:n00*25", "6:n00*201", "6:n00*500", "6:n00*990",
            "7:n00*1000", "5:n00*1/", "6:n00*10/5", "6:n00*20/5", "7:n00*200;", "6:n00*50*", "6:n00*50;",
            "7:n00*50/0", "8:n00*50/61", "8:n00*50/70", "9:n00*50/600", "9:n00*50/111", "8:n00*50/5/", "7:n00*50/;",
            "1:o8", "2:o0-", "1:$6", "2:$00", "1:+0", "1:++", "1:+;", "3:+100", "3:+999", "3:s0;;", "2:s0s",
            "2:s0+", "4:s0;s6", "5:+1;+1s", "2:+1.", "6:s0;+9;;s9"};
        for (String told : bad) {
            int colon = told.indexOf(':');
            int place = Integer.parseInt(told.substring(0, colon));
            BitumenNeedle x = type(new BitumenNeedle(), told.substring(colon + 1));
            Check.equal("16: " + told, x.firstError(), place);
            Check.noArgument("16: not obeyed, " + told, x::obey);
            Check.equal("16: again", x.firstError(), place);
        }
    }

    private static void promise17() {
        for (String open : new String[] {"", "s", "b0", "n00*5", "n00*50/", "+", "s0;", "n0", "n00", "n00*1", "n00*10"}) {
            BitumenNeedle x = type(new BitumenNeedle(), open);
            x.drum(60);
            Check.noArgument("17: not complete, " + open, x::obey);
            Check.equal("17: nothing saved, " + open, x.count(11), 1);
            Check.equal("17: the buffer stays, " + open, x.clearBuffer(), open.length());
        }
        BitumenNeedle x = new BitumenNeedle();
        Check.equal("17: a part that is refused", type(x, "s0").obey(), 0);
        Check.equal("17: saved though nothing is done", x.count(11), 1);
        Check.equal("17: the buffer is cleared", x.clearBuffer(), 0);
        x.drum(60);
        Check.equal("17: two of four", type(x, "s0;b02;b10;s0").obey(), 2);
        Check.equal("17: the third stopped it", x.stopped(0), 2);
        Check.equal("17: done up to it", x.sampleOf(0, 3), 2);
        Check.equal("17: nothing behind it", x.count(1), 1);
        Check.equal("17: one state saved", x.count(11), 3);
        x.undo();
        Check.equal("17: undone as one call", x.count(1), 0);
        Check.equal("17: the stop before is back", x.stopped(0), 0);
        Check.equal("17: its reason too", x.stopped(1), 13);
        Check.equal("17: the buffer is not", x.firstError(), 0);
    }

    private static void promise17Whole() {
        BitumenNeedle x = new BitumenNeedle();
        x.drum(100);
        Check.equal("17: samples", type(x, "s0;s0;b01;b11;+60").obey(), 5);
        Check.equal("17: minutes", x.count(5), 60);
        Check.equal("17: one call", x.count(11), 2);
        Check.equal("17: first sample", type(x, "n00*100/5;n00*100/5;n00*100/5;n10*60/10;n10*200/60").obey(), 5);
        Check.equal("17: weight", x.reading(0, 3, 2), 60);
        Check.equal("17: seconds", x.reading(0, 3, 3), 10);
        Check.equal("17: needle", x.reading(0, 3, 0), 1);
        Check.equal("17: deepest", x.reading(0, 4, 1), 400);
        Check.equal("17: second sample", type(x, "n01*100/5;n01*100/5;n21*100/5").obey(), 3);
        Check.equal("17: mask", x.sampleOf(1, 8), 5);
        Check.equal("17: again", type(x, "n10*100/5;n10*100/5;n10*100/5;b0-;o0;$0;+1").obey(), 7);
        Check.equal("17: no stop", x.stopped(0), -1);
        Check.equal("17: softening, 8 readings", x.sampleOf(0, 7), 380);
        Check.equal("17: sold, 43 and 42", x.drumOf(0, 8), 2);
        Check.equal("17: out of the bath", x.sampleOf(0, 3), -1);
        Check.equal("17: a minute", x.count(5), 61);
        StringBuilder long60 = new StringBuilder("+1");
        for (int i = 0; i < 19; i++) {
            long60.append(";+1");
        }
        Check.equal("17: twenty parts", type(x, long60.toString()).obey(), 20);
        Check.equal("17: twenty minutes", x.count(5), 81);
        Check.equal("17: a full buffer", type(x, long60.append('0').toString()).obey(), 20);
        Check.equal("17: 29 minutes", x.count(5), 110);
    }

    private static void promise18() {
        BitumenNeedle x = new BitumenNeedle();
        Check.noArgument("18: -1", () -> x.stopped(-1));
        Check.noArgument("18: 2", () -> x.stopped(2));
        type(x, "+1;+1;s5;+1").obey();
        Check.equal("18: part", x.stopped(0), 2);
        Check.equal("18: reason", x.stopped(1), 13);
        type(x, "s");
        Check.noArgument("18: refused", x::obey);
        Check.equal("18: a refused call leaves the stop", x.stopped(0), 2);
        x.drum(50);
        Check.equal("18: other calls leave it", x.stopped(1), 13);
        x.keep();
        type(x, "+1").obey();
        Check.equal("18: no stop", x.stopped(0), -1);
        Check.equal("18: no reason", x.stopped(1), -1);
        x.restore();
        Check.equal("18: the snapshot has it", x.stopped(0), 2);
        x.undo();
        Check.equal("18: undo brings it back", x.stopped(0), -1);
    }

    private static void stops(String text, BitumenNeedle x, int part, int reason) {
        Check.equal("18: done of " + text, type(x, text).obey(), part);
        Check.equal("18: part of " + text, x.stopped(0), part);
        Check.equal("18: reason of " + text, x.stopped(1), reason);
    }

    private static void promise18Reasons() {
        BitumenNeedle x = new BitumenNeedle();
        stops("b00", x, 0, 13);
        stops("b0-", x, 0, 13);
        stops("n00*50/1", x, 0, 13);
        stops("o0", x, 0, 13);
        stops("$0", x, 0, 13);
        x.drum(20);
        stops("s0;s1", x, 1, 13);
        stops("n00*100/5", x, 0, 2);
        stops("b00;n00*100/5", x, 1, 3);
        stops("+60;o0", x, 1, 8);
        stops("$0", x, 0, 9);
        stops("s0;s0;s0;b10;b20;b30", x, 5, 14);
        stops("s0;s0;s0;s0;s0", x, 4, 14);
        stops("b20;+60;n00*100/10;n00*100/10;n00*50/1;n00*50/1", x, 5, 1);
        Check.equal("18: five", type(x, "n10*60/60;n10*60/60;n10*60/60;n10*60/60;n10*60/60").obey(), 5);
        Check.equal("18: no stop behind the five", x.stopped(0), -1);
        stops("n10*60/60;n10*60/60", x, 1, 4);
        BitumenNeedle y = NeedlesTest.warmed(100, 2);
        stops("n00*100/5;n00*100/5;n00*100/5;$0", y, 3, 9);
        stops("n01*100/5;n01*100/5;n01*100/5;$0", y, 3, 10);
        stops("n11*100/5;$0", y, 1, 11);
        y.set(2, 60);
        stops("b0-;o0;$0", y, 2, 12);
        y.set(2, 8);
        stops("$0;$0", y, 1, 15);
        stops("$1", y, 0, 13);
    }
}
