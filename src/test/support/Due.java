/** Counts answers that are not the ones that are due; a call that throws must leave all as it was. */
final class Due {
    interface Call {
        long run();
    }

    private static int asked = 0;
    private static int wrong = 0;

    private Due() {
    }

    static void is(String call, Call asks, long want) {
        asked++;
        try {
            long got = asks.run();
            if (got != want) {
                tell(call + " answered " + got + ", due is " + want);
            }
        } catch (RuntimeException e) {
            tell(call + " threw " + e + ", due is " + want);
        }
    }

    static void text(String call, String got, String want) {
        asked++;
        if (!got.equals(want)) {
            tell(call + " is \"" + got + "\", due is \"" + want + "\"");
        }
    }

    static void outOfBounds(FixityTrees x, String call, Call asks) {
        fails(x, call, asks, IndexOutOfBoundsException.class);
    }

    static void badState(FixityTrees x, String call, Call asks) {
        fails(x, call, asks, IllegalStateException.class);
    }

    static void badArgument(FixityTrees x, String call, Call asks) {
        fails(x, call, asks, IllegalArgumentException.class);
    }

    // The very class is due: what the machine throws by itself is of a class below one of these.
    private static void fails(FixityTrees x, String call, Call asks, Class<?> want) {
        asked++;
        String before = Texts.state(x);
        try {
            long got = asks.run();
            tell(call + " answered " + got + ", due is " + want.getName());
        } catch (RuntimeException e) {
            if (e.getClass() != want) {
                tell(call + " threw " + e + ", due is " + want.getName());
            }
        }
        if (!Texts.state(x).equals(before)) {
            tell(call + " threw and changed something");
        }
    }

    private static void tell(String line) {
        wrong++;
        System.out.println(line);
    }

    static void end() {
        System.out.println(wrong == 0 ? asked + " answers are as due" : wrong + " answers are not as due");
        if (wrong != 0) {
            System.exit(1);
        }
    }
}
