/** Compares answers with those that are due, and counts the wrong ones. */
final class Check {
    private static int wrong = 0;
    private static int looked = 0;

    private Check() {
    }

    static void equal(String call, long got, long due) {
        looked++;
        if (got != due) {
            complain(call + " answered " + got + ", due is " + due);
        }
    }

    static void equal(String call, double got, double due) {
        looked++;
        if (Double.compare(got, due) != 0) {
            complain(call + " answered " + got + ", due is " + due);
        }
    }

    static void isTrue(String what, boolean holds) {
        looked++;
        if (!holds) {
            complain(what);
        }
    }

    /** The call throws exactly this exception, and changes nothing of the object. */
    static void refuses(String call, NestedFrames frames, Class<?> due, Runnable run) {
        looked++;
        String before = stateOf(frames);
        Class<?> got = null;
        try {
            run.run();
        } catch (Throwable thrown) {
            got = thrown.getClass();
        }
        if (got != due) {
            complain(call + " threw " + got + ", due is " + due);
        }
        if (!before.equals(stateOf(frames))) {
            complain(call + " threw, but changed something");
        }
    }

    /** All that can be told of an object's state, as a text. */
    static String stateOf(NestedFrames frames) {
        StringBuilder state = new StringBuilder();
        for (int what = 0; what <= 8; what++) {
            state.append(frames.count(what)).append(' ');
        }
        for (int number = 0; number < frames.count(1); number++) {
            state.append("| ");
            for (int what = 0; what <= 8; what++) {
                state.append(frames.told(number, what)).append(' ');
            }
            state.append("way ");
            for (int step = 0; step <= frames.count(3); step++) {
                state.append(frames.way(number, step)).append(' ');
            }
        }
        return state.append("= ").append(frames.digest()).append(' ').append(frames.mean()).toString();
    }

    static void end(String test) {
        System.out.println(test + ": " + looked + " checks, " + wrong + " wrong");
        if (wrong != 0) {
            System.exit(1);
        }
    }

    private static void complain(String text) {
        wrong++;
        if (wrong <= 50) {
            System.out.println(text);
        }
    }
}
