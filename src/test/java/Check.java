/** Counts the wrong answers of one test; each test's main method ends with finish(). */
final class Check {
    private static int asked = 0;
    private static int wrong = 0;
    private static String about = "";

    private Check() {
    }

    /** A call of the face. */
    interface Call {
        long ask();
    }

    /** What the answers that are looked at from here on are about. */
    static void about(String what) {
        about = what;
    }

    /** How many answers have been looked at so far. */
    static int asked() {
        return asked;
    }

    static void equal(String what, long got, long due) {
        asked++;
        if (got != due) {
            isWrong(what + " answered " + got + ", due is " + due);
        }
    }

    static void same(String what, Object got, Object due) {
        asked++;
        if (!due.equals(got)) {
            isWrong(what + " answered " + got + ", due is " + due);
        }
    }

    static void that(String what, boolean holds) {
        asked++;
        if (!holds) {
            isWrong("does not hold: " + what);
        }
    }

    static void noIndex(String what, Call call) {
        thrown(what, call, IndexOutOfBoundsException.class);
    }

    static void noArgument(String what, Call call) {
        thrown(what, call, IllegalArgumentException.class);
    }

    static void noState(String what, Call call) {
        thrown(what, call, IllegalStateException.class);
    }

    private static void thrown(String what, Call call, Class<? extends Exception> due) {
        asked++;
        String got;
        try {
            got = Long.toString(call.ask());
        } catch (RuntimeException e) {
            if (e.getClass() == due) {
                return;
            }
            got = e.getClass().getName();
        }
        isWrong(what + " answered " + got + ", due is " + due.getSimpleName());
    }

    private static void isWrong(String told) {
        wrong++;
        System.out.println(about + told);
    }

    static void finish(String test) {
        System.out.println(test + ": " + asked + " answers looked at, " + wrong + " wrong");
        if (wrong != 0 || asked == 0) {
            System.exit(1);
        }
    }
}
