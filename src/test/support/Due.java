/**
 * Counts answers that are not the ones that are due. Every answer is asked about a sentence of the
 * document; a call that throws must leave all as it was.
 */
final class Due {
    interface Call {
        long run();
    }

    private static String about = null;
    private static int sentences = 0;
    private static int asked = 0;
    private static int wrong = 0;

    static {
        // A call that throws while a test sets up ends it: then, too, it is to be told what it was about.
        Thread.setDefaultUncaughtExceptionHandler((thread, e) -> {
            System.out.println(about + ": the test broke off");
            e.printStackTrace(System.out);
        });
    }

    private Due() {
    }

    /** Where the document has the sentence that the next answers are about, and its words. */
    static void about(String where, String sentence) {
        about = where + ", \"" + sentence + "\"";
        sentences++;
        if (!Quotes.stands(where, sentence)) {
            tell("no such sentence stands there");
        }
    }

    static void is(String call, Call asks, long want) {
        asked++;
        try {
            long got = asks.run();
            if (got != want) {
                tell(call + " answered " + got + ", due is " + want);
            }
        } catch (RuntimeException e) {
            tell(call + " threw " + e + ", due is " + want);
        }
    }

    static void text(String call, String got, String want) {
        asked++;
        if (!got.equals(want)) {
            tell(call + " is \"" + got + "\", due is \"" + want + "\"");
        }
    }

    static void outOfBounds(Run x, String call, Call asks) {
        fails(x, call, asks, IndexOutOfBoundsException.class);
    }

    static void badState(Run x, String call, Call asks) {
        fails(x, call, asks, IllegalStateException.class);
    }

    static void badArgument(Run x, String call, Call asks) {
        fails(x, call, asks, IllegalArgumentException.class);
    }

    // The very class is due: what the machine throws by itself is of a class below one of these.
    private static void fails(Run x, String call, Call asks, Class<?> want) {
        asked++;
        int made = x.made();
        try {
            long got = asks.run();
            tell(call + " answered " + got + ", due is " + want.getName());
        } catch (RuntimeException e) {
            if (e.getClass() != want) {
                tell(call + " threw " + e + ", due is " + want.getName());
            } else if (!State.of(x).equals(State.of(x, made))) {
                tell(call + " threw and changed something");
            }
        }
    }

    private static void tell(String line) {
        wrong++;
        System.out.println(about + ": " + line);
    }

    static void end() {
        System.out.println(asked + " answers about " + sentences + " sentences: "
                + (wrong == 0 ? "all are as due" : wrong + " are not as due"));
        if (wrong != 0) {
            System.exit(1);
        }
    }
}
