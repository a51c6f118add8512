import java.util.Random;

/** Runs of all 512 calls: NestedFrames answers each one as SlowFrames does. The seeds are fixed. */
public final class RunsTest {
    private static final int RUNS = 400;
    private static final int CALLS = CountedFrames.MOST_CALLS;
    // A change and the digest behind it.
    private static final int CALLS_OF_A_STEP = 2;

    private final Random random;
    private final CountedFrames frames = new CountedFrames();
    private final SlowFrames slow = new SlowFrames();
    private final int run;
    private final int style;
    private final int goShare;
    private int came = 0;
    private int deepest = 0;

    private interface Call {
        long answer();
    }

    private RunsTest(int run) {
        this.run = run;
        this.random = new Random(1303L * run + 7);
        this.style = run % 6;
        this.goShare = new int[] {0, 20, 45, 50, 80}[run / 6 % 5];
    }

    public static void main(String[] arguments) {
        int deepest = 0;
        for (int run = 0; run < RUNS; run++) {
            RunsTest test = new RunsTest(run);
            test.go();
            deepest = Math.max(deepest, test.deepest);
        }
        Check.isTrue("the runs go three steps down at least, not " + deepest, deepest >= 3);
        Check.end("RunsTest");
    }

    private void go() {
        // The first calls build, for the later ones have to find something to ask for.
        int building = 40 + random.nextInt(100);
        for (int step = 0; frames.calls() + CALLS_OF_A_STEP < CALLS; step++) {
            if (step < building || random.nextInt(4) == 0) {
                change();
            } else {
                ask();
            }
        }
        while (frames.calls() < CALLS) {
            compare("digest()", frames::digest, slow::digest);
        }
    }

    private void change() {
        if (random.nextInt(100) < goShare) {
            int number = number();
            compare("go(" + number + ")", () -> frames.go(number), () -> slow.go(number));
        } else {
            int[] r = rectangle();
            compare(text("come", r), () -> frames.come(r[0], r[1], r[2], r[3]), () -> slow.come(r[0], r[1], r[2], r[3]));
            came = slow.count(1);
        }
        deepest = Math.max(deepest, slow.count(3));
        if (random.nextInt(8) == 0) {
            compare("digest()", frames::digest, slow::digest);
        }
    }

    private void ask() {
        int number = number();
        int what = random.nextInt(11) - 1;
        int step = random.nextInt(6) - 1;
        int[] r = rectangle();
        switch (random.nextInt(9)) {
            case 0 -> compare("told(" + number + ", " + what + ")", () -> frames.told(number, what),
                () -> slow.told(number, what));
            case 1 -> compare("way(" + number + ", " + step + ")", () -> frames.way(number, step),
                () -> slow.way(number, step));
            case 2 -> compare(text("overlaps", r), () -> frames.overlaps(r[0], r[1], r[2], r[3]),
                () -> slow.overlaps(r[0], r[1], r[2], r[3]));
            case 3 -> compare(text("looks", r), () -> frames.looks(r[0], r[1], r[2], r[3]),
                () -> slow.looks(r[0], r[1], r[2], r[3]));
            case 4 -> compare("nearest(" + r[0] + ", " + r[1] + ")", () -> frames.nearest(r[0], r[1]),
                () -> slow.nearest(r[0], r[1]));
            case 5 -> compare("count(" + what + ")", () -> frames.count(what), () -> slow.count(what));
            case 6 -> compare(text("grows", r), () -> frames.grows(r[0], r[1], r[2], r[3]),
                () -> slow.grows(r[0], r[1], r[2], r[3]));
            case 7 -> compare(text("splits", r), () -> frames.splits(r[0], r[1], r[2], r[3]),
                () -> slow.splits(r[0], r[1], r[2], r[3]));
            default -> compare("mean()", () -> Double.doubleToLongBits(frames.mean()),
                () -> Double.doubleToLongBits(slow.mean()));
        }
    }

    private int number() {
        return random.nextInt(40) == 0 ? random.nextInt(70) - 5 : random.nextInt(Math.max(1, came));
    }

    private int[] rectangle() {
        int reach = new int[] {100, 100, 6, 100, 12, 100}[style];
        int size = new int[] {8, 100, 3, 1, 2, 30}[style];
        int x = random.nextInt(reach);
        int y = style == 3 ? random.nextInt(2) : random.nextInt(reach);
        int[] r = {x, y, Math.min(99, x + random.nextInt(size)), Math.min(99, y + random.nextInt(size))};
        if (random.nextInt(50) == 0) {
            r[random.nextInt(4)] = new int[] {-1, 100, 99, 0}[random.nextInt(4)];
        }
        return r;
    }

    private static String text(String name, int[] r) {
        return name + "(" + r[0] + ", " + r[1] + ", " + r[2] + ", " + r[3] + ")";
    }

    private void compare(String call, Call got, Call due) {
        Object gotten = outcome(got);
        Object awaited = outcome(due);
        Check.isTrue("run " + run + ": " + call + " answered " + gotten + ", due is " + awaited,
            gotten.equals(awaited));
    }

    private static Object outcome(Call call) {
        try {
            return call.answer();
        } catch (RuntimeException thrown) {
            return thrown.getClass().getSimpleName();
        }
    }
}
