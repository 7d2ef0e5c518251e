/** Promises 1 to 8: a new object, drums, samples, baths. */
final class DrumsTest {
    private DrumsTest() {
    }

    public static void main(String[] args) {
        promise1();
        promise2();
        promise3();
        promise4();
        promise5();
        promise6();
        promise7();
        promise8();
        promise8Steps();
        Check.finish("DrumsTest");
    }

    private static void promise1() {
        BitumenNeedle x = new BitumenNeedle();
        int[] counts = {0, 0, 0, 0, 0, 0, 0, 0, 5, 12, 8, 0};
        for (int what = 0; what < counts.length; what++) {
            Check.equal("1: count " + what, x.count(what), counts[what]);
        }
        int[] degrees = {150, 250, 350};
        for (int i = 0; i < 3; i++) {
            Check.equal("1: degree of bath " + i, x.bathOf(i, 0), degrees[i]);
            Check.equal("1: samples in bath " + i, x.bathOf(i, 1), 0);
            Check.equal("1: difference in bath " + i, x.bathOf(i, 2), -1);
            for (int what = 0; what < 3; what++) {
                Check.equal("1: needle " + i + ", " + what, x.needle(i, what), 0);
            }
        }
        Check.noState("1: restore", x::restore);
        Check.noState("1: undo", x::undo);
        Check.equal("1: clearBuffer", x.clearBuffer(), 0);
        Check.equal("1: stopped 0", x.stopped(0), -1);
        Check.equal("1: stopped 1", x.stopped(1), -1);
        BitumenNeedle other = new BitumenNeedle();
        other.drum(50);
        Check.equal("1: objects have nothing in common", x.count(0), 0);
    }

    private static void promise2() {
        BitumenNeedle x = new BitumenNeedle();
        Check.noArgument("2: 19", () -> x.drum(19));
        Check.noArgument("2: 301", () -> x.drum(301));
        Check.equal("2: a refused call saves nothing", x.count(11), 0);
        int[] softness = {20, 300, 21, 299, 100, 77};
        for (int drum = 0; drum < 6; drum++) {
            Check.equal("2: number", x.drum(softness[drum]), drum);
            Check.equal("2: saved", x.count(11), drum + 1);
        }
        Check.noState("2: a seventh", () -> x.drum(100));
        Check.noArgument("2: a seventh out of range", () -> x.drum(19));
        int[] hardness = {50, 3, 47, 3, 10, 12};
        for (int drum = 0; drum < 6; drum++) {
            Check.equal("2: softness", x.drumOf(drum, 0), softness[drum]);
            Check.equal("2: age", x.drumOf(drum, 1), 0);
            Check.equal("2: hardness", x.drumOf(drum, 2), hardness[drum]);
            Check.equal("2: class", x.drumOf(drum, 8), -1);
        }
        Check.equal("2: undo", x.undo(), 5);
        Check.equal("2: drums behind undo", x.count(0), 5);
    }

    private static void promise3() {
        BitumenNeedle x = new BitumenNeedle();
        Check.equal("3: without drums", x.age(99), -1);
        Check.equal("3: saved without drums", x.count(11), 1);
        Check.noArgument("3: 0", () -> x.age(0));
        Check.noArgument("3: 100", () -> x.age(100));
        x.drum(60);
        Check.equal("3: first", x.age(9), 9);
        Check.equal("3: hardness of 9 days", x.drumOf(0, 2), 16);
        x.drum(300);
        Check.equal("3: the oldest", x.age(1), 10);
        Check.equal("3: hardness of 10 days", x.drumOf(0, 2), 17);
        Check.equal("3: the younger", x.drumOf(1, 1), 1);
        for (int i = 0; i < 9; i++) {
            x.age(99);
        }
        Check.equal("3: 901", x.drumOf(0, 1), 901);
        Check.equal("3: 998", x.age(97), 998);
        Check.equal("3: 999", x.age(1), 999);
        Check.equal("3: at most 999", x.age(50), 999);
        Check.equal("3: the younger goes on", x.drumOf(1, 1), 999);
        Check.equal("3: hardness of 999 days", x.drumOf(0, 2), 16 + 99);
        x.undo();
        Check.equal("3: undone", x.drumOf(1, 1), 990);
    }

    private static void promise4() {
        BitumenNeedle x = new BitumenNeedle();
        Check.noIndex("4: no drum", () -> x.sample(0));
        x.drum(60);
        x.drum(90);
        Check.noIndex("4: -1", () -> x.sample(-1));
        Check.noIndex("4: 2", () -> x.sample(2));
        Check.equal("4: first", x.sample(1), 0);
        int[] due = {1, 11, 200, -1, 0, -1, 5, -1, 0};
        for (int what = 0; what < 9; what++) {
            Check.equal("4: sampleOf " + what, x.sampleOf(0, what), due[what]);
        }
        x.age(50);
        Check.equal("4: second", x.sample(1), 1);
        Check.equal("4: hardness stays as it was taken", x.sampleOf(0, 1), 11);
        Check.equal("4: hardness of an older drum", x.sampleOf(1, 1), 16);
        for (int sample = 2; sample < 8; sample++) {
            Check.equal("4: number", x.sample(0), sample);
        }
        Check.noState("4: a ninth", () -> x.sample(0));
        Check.noIndex("4: a ninth of no drum", () -> x.sample(2));
        x.undo();
        Check.equal("4: undone", x.count(1), 7);
    }

    private static void promise5() {
        BitumenNeedle x = new BitumenNeedle();
        Check.noIndex("5: none", () -> x.toss(0));
        x.drum(20);
        x.drum(300);
        x.sample(0);
        x.sample(1);
        x.sample(0);
        x.bath(1, 1);
        x.bath(2, 2);
        x.pass(40);
        x.sink(1, 1, 100, 5);
        x.sink(1, 1, 60, 7);
        x.ring(0);
        Check.noIndex("5: -1", () -> x.toss(-1));
        Check.noIndex("5: 3", () -> x.toss(3));
        Check.equal("5: without readings", x.toss(0), 0);
        Check.equal("5: the next has its number", x.sampleOf(0, 0), 1);
        Check.equal("5: with its bath", x.sampleOf(0, 3), 1);
        Check.equal("5: with its readings", x.reading(0, 1, 2), 60);
        Check.equal("5: the last too", x.sampleOf(1, 3), 2);
        Check.equal("5: two left", x.count(1), 2);
        Check.equal("5: with readings", x.toss(0), 2);
        Check.equal("5: no sample in its bath", x.bathOf(1, 1), 0);
        Check.equal("5: readings so far stay", x.count(2), 2);
        Check.equal("5: a new one behind the last", x.sample(1), 1);
        int[] due = {1, 3, 200, -1, 0, -1, 5, -1, 0};
        for (int what = 0; what < 9; what++) {
            Check.equal("5: a new one is new, " + what, x.sampleOf(1, what), due[what]);
        }
        x.ring(1);
        x.toss(1);
        x.sample(0);
        Check.equal("5: nothing of one thrown away is left", x.sampleOf(1, 7), -1);
        Check.equal("5: its hardness neither", x.sampleOf(1, 1), 50);
        for (int i = 0; i < 5; i++) {
            x.undo();
        }
        Check.equal("5: undone", x.sampleOf(0, 4), 2);
        Check.equal("5: undone, its drum", x.sampleOf(0, 0), 1);
        Check.equal("5: undone, its hardness", x.sampleOf(0, 1), 3);
        Check.equal("5: undone wholly", x.reading(0, 1, 3), 7);
    }

    private static void promise6() {
        BitumenNeedle x = new BitumenNeedle();
        x.drum(60);
        for (int sample = 0; sample < 5; sample++) {
            x.sample(0);
        }
        Check.noIndex("6: no such sample", () -> x.bath(5, 0));
        Check.noIndex("6: sample -1", () -> x.bath(-1, 0));
        Check.noIndex("6: bath 3", () -> x.bath(0, 3));
        Check.noIndex("6: bath -2", () -> x.bath(0, -2));
        Check.equal("6: out of none", x.bath(0, -1), -1);
        Check.equal("6: in", x.bath(0, 2), -1);
        Check.equal("6: into another", x.bath(0, 1), 2);
        x.bath(1, 1);
        x.bath(2, 1);
        Check.noState("6: a fourth", () -> x.bath(3, 1));
        Check.equal("6: refused, nothing changed", x.sampleOf(3, 3), -1);
        Check.equal("6: one of the three again", x.bath(2, 1), 1);
        Check.equal("6: out", x.bath(1, -1), 1);
        Check.equal("6: room again", x.bath(3, 1), -1);
        Check.equal("6: degree stays", x.sampleOf(3, 2), 200);
        Check.equal("6: saved, at most 6", x.count(11), 6);
        x.undo();
        Check.equal("6: undone", x.bathOf(1, 1), 2);
        Check.equal("6: out always", x.bath(4, -1), -1);
        Check.noIndex("6: no bath for no sample", () -> x.bath(5, -1));
    }

    private static void promise7() {
        BitumenNeedle x = new BitumenNeedle();
        Check.noIndex("7: bath -1", () -> x.warm(-1, 100));
        Check.noIndex("7: bath 3", () -> x.warm(3, 901));
        Check.noArgument("7: degree -1", () -> x.warm(0, -1));
        Check.noArgument("7: degree 901", () -> x.warm(2, 901));
        Check.equal("7: to 0", x.warm(0, 0), 150);
        Check.equal("7: to 900", x.warm(0, 900), 0);
        Check.equal("7: again", x.warm(0, 900), 900);
        Check.equal("7: others stay", x.bathOf(1, 0), 250);
        Check.equal("7: saved", x.count(11), 3);
        x.undo();
        x.undo();
        Check.equal("7: undone", x.bathOf(0, 0), 0);
    }

    private static void promise8() {
        BitumenNeedle x = new BitumenNeedle();
        Check.noArgument("8: 0", () -> x.pass(0));
        Check.noArgument("8: 100", () -> x.pass(100));
        Check.equal("8: without samples", x.pass(99), 0);
        x.drum(60);
        x.sample(0);
        x.sample(0);
        x.sample(0);
        x.warm(0, 200);
        x.bath(0, 0);
        x.bath(1, 1);
        Check.equal("8: one has the degree of its bath; one in none never counts", x.pass(1), 1);
        Check.equal("8: both", x.pass(50), 2);
        Check.equal("8: minutes", x.count(5), 150);
        x.bath(1, -1);
        Check.equal("8: out of it", x.pass(1), 1);
        Check.equal("8: it cools to 200", x.sampleOf(1, 2), 237);
        x.pass(99);
        Check.equal("8: to 200", x.sampleOf(1, 2), 200);
        x.undo();
        Check.equal("8: undone as one call", x.sampleOf(1, 2), 237);
        Check.equal("8: minutes undone", x.count(5), 151);
    }

    /** Each difference, what it becomes in a minute: warmer by a quarter or 1, colder by a quarter rounded down. */
    private static void promise8Steps() {
        int[][] steps = {{0, 0}, {1, 1}, {2, 1}, {3, 1}, {4, 1}, {7, 1}, {8, 2}, {150, 37},
            {-1, -1}, {-2, -1}, {-3, -1}, {-4, -1}, {-5, -2}, {-8, -2}, {-9, -3}, {-150, -38}};
        for (int[] step : steps) {
            BitumenNeedle x = new BitumenNeedle();
            x.drum(60);
            x.sample(0);
            x.warm(0, 200 + step[0]);
            x.bath(0, 0);
            x.pass(1);
            Check.equal("8: a difference of " + step[0], x.sampleOf(0, 2), 200 + step[1]);
            x.undo();
            x.warm(0, 200 - step[0]);
            x.pass(99);
            x.bath(0, -1);
            x.pass(1);
            Check.equal("8: without a bath, of " + step[0], x.sampleOf(0, 2), 200 - step[0] + step[1]);
        }
    }
}
