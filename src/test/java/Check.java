import java.util.function.Consumer;

/** Compares answers with those that are due, and counts the wrong ones. */
final class Check {
    private static int wrong = 0;
    private static int looked = 0;
    private static String sentence = "";

    private Check() {
    }

    /** Runs the test of one sentence of the document; its complaints bear the sentence. */
    static void sentence(String text, Runnable test) {
        sentence = text + ": ";
        int before = looked;
        try {
            test.run();
        } catch (Throwable thrown) {
            // One broken sentence must not hide what the tests behind it have to say.
            complain("stopped by " + thrown);
        }
        if (looked == before) {
            complain("nothing was looked at");
        }
        sentence = "";
    }

    static void equal(String call, long got, long due) {
        looked++;
        if (got != due) {
            complain(call + " answered " + got + ", due is " + due);
        }
    }

    static void equal(String call, double got, double due) {
        looked++;
        if (Double.compare(got, due) != 0) {
            complain(call + " answered " + got + ", due is " + due);
        }
    }

    static void equal(String calls, String got, String due) {
        looked++;
        if (!got.equals(due)) {
            complain(calls + " answered " + got + ", due is " + due);
        }
    }

    static void isTrue(String what, boolean holds) {
        looked++;
        if (!holds) {
            complain(what);
        }
    }

    /** The call throws exactly this exception, and changes nothing of the object. */
    static void refuses(String call, CountedFrames frames, Class<?> due, Runnable run) {
        looked++;
        String before = stateOf(frames);
        Class<?> got = null;
        try {
            run.run();
        } catch (Throwable thrown) {
            got = thrown.getClass();
        }
        if (got != due) {
            complain(call + " threw " + got + ", due is " + due);
        }
        if (!before.equals(stateOf(frames))) {
            complain(call + " threw, but changed something");
        }
    }

    /** The call answers without a change of the object. */
    static void unchanged(String call, CountedFrames frames, Consumer<CountedFrames> run) {
        looked++;
        String before = stateOf(frames);
        run.accept(frames);
        if (!before.equals(stateOf(frames))) {
            complain(call + " changed something");
        }
    }

    /** What tells two states apart, in few calls: the digest goes over all that told() and the frames tell. */
    private static String stateOf(CountedFrames frames) {
        StringBuilder state = new StringBuilder();
        for (int what = 0; what <= 8; what++) {
            state.append(frames.count(what)).append(' ');
        }
        return state.append(frames.digest()).append(' ').append(frames.mean()).toString();
    }

    /** The digest of these numbers, as promise 13 says it. */
    static long folded(int... numbers) {
        long d = 1303;
        for (int x : numbers) {
            d = d * 31 + x;
        }
        return d;
    }

    static void end(String test) {
        System.out.println(test + ": " + looked + " checks, " + wrong + " wrong");
        if (wrong != 0) {
            System.exit(1);
        }
    }

    private static void complain(String text) {
        wrong++;
        if (wrong <= 50) {
            System.out.println(sentence + text);
        }
    }
}
