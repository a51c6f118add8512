/** Each promise by cases whose answers were worked out by hand from the document. */
public final class PromisesTest {
    private static final Class<?> ARGUMENT = IllegalArgumentException.class;
    private static final Class<?> STATE = IllegalStateException.class;
    private static final Class<?> INDEX = IndexOutOfBoundsException.class;

    private static final int[][] WRONG_RECTANGLES = {
        {-1, 0, 5, 5}, {0, -1, 5, 5}, {0, 0, 100, 5}, {0, 0, 5, 100}, {6, 0, 5, 5}, {0, 6, 5, 5},
        {Integer.MIN_VALUE, 0, 5, 5}, {0, Integer.MIN_VALUE, 5, 5},
        {0, 0, Integer.MAX_VALUE, 5}, {0, 0, 5, Integer.MAX_VALUE},
        {Integer.MAX_VALUE, 0, Integer.MIN_VALUE, 5}, {0, Integer.MAX_VALUE, 5, Integer.MIN_VALUE},
        {100, 0, 100, 0}, {0, 100, 0, 100}, {-2, 0, -1, 0}, {0, -2, 0, -1},
    };

    private interface RectangleCall {
        int of(CountedFrames frames, int x1, int y1, int x2, int y2);
    }

    private PromisesTest() {
    }

    public static void main(String[] arguments) {
        newObject();
        comeNumbersAndLimits();
        comeChoosesFrames();
        comeSplitsFrames();
        comeSplitsUpwards();
        goGivesUp();
        goDropsFrames();
        goRefuses();
        told();
        way();
        overlaps();
        looks();
        nearest();
        count();
        grows();
        splits();
        mean();
        digest();
        Check.end("PromisesTest");
    }

    /**
     * Two frames of frames: {0 10 20}, {30 40 50}, {60 70 80} in the first one, {90 95 96}, {97 98} in the
     * second one; their numbers are 0 to 13 in this order.
     */
    private static CountedFrames threeLevels() {
        return CountedFrames.row(0, 10, 20, 30, 40, 50, 60, 70, 80, 90, 95, 96, 97, 98);
    }

    private static void tells(String title, CountedFrames frames, int what, int... due) {
        for (int number = 0; number < due.length; number++) {
            Check.equal(title + ": told(" + number + ", " + what + ")", frames.told(number, what), due[number]);
        }
    }

    private static void ways(String title, CountedFrames frames, int step, int... due) {
        for (int number = 0; number < due.length; number++) {
            Check.equal(title + ": way(" + number + ", " + step + ")", frames.way(number, step), due[number]);
        }
    }

    private static void counts(String title, CountedFrames frames, int... due) {
        for (int what = 0; what < due.length; what++) {
            Check.equal(title + ": count(" + what + ")", frames.count(what), due[what]);
        }
    }

    private static void refusesWrongRectangles(String name, RectangleCall call) {
        for (CountedFrames frames : new CountedFrames[] {new CountedFrames(), threeLevels()}) {
            for (int[] r : WRONG_RECTANGLES) {
                String text = name + "(" + r[0] + ", " + r[1] + ", " + r[2] + ", " + r[3] + ")";
                Check.refuses(text, frames, ARGUMENT, () -> call.of(frames, r[0], r[1], r[2], r[3]));
            }
        }
    }

    private static void newObject() {
        CountedFrames frames = new CountedFrames();
        counts("new", frames, 0, 0, 1, 0, 0, 0, 0, 0, 0);
        Check.equal("new: mean()", frames.mean(), 0.0);
        Check.equal("new: nearest", frames.nearest(0, 0), -1);
        Check.equal("new: looks", frames.looks(0, 0, 99, 99), 1);
        CountedFrames other = new CountedFrames();
        other.come(1, 1, 2, 2);
        counts("new, beside another one", frames, 0, 0, 1, 0, 0, 0, 0, 0, 0);
    }

    private static void comeNumbersAndLimits() {
        refusesWrongRectangles("come", CountedFrames::come);
        CountedFrames frames = new CountedFrames();
        Check.equal("come of all", frames.come(0, 0, 99, 99), 0);
        Check.equal("come at the least edges", frames.come(0, 0, 0, 0), 1);
        Check.equal("come at the greatest edges", frames.come(99, 99, 99, 99), 2);
        frames.go(1);
        for (int number = 3; number < 60; number++) {
            Check.equal("come " + number, frames.come(number, number, number + 3, number + 1), number);
        }
        Check.refuses("come, if there were 60", frames, STATE, () -> frames.come(0, 0, 0, 0));
        Check.refuses("wrong come, if there were 60", frames, ARGUMENT, () -> frames.come(0, 0, 100, 0));
        frames.goAll(2, 59);
        frames.go(0);
        Check.equal("none held", frames.count(0), 0);
        Check.refuses("come, if there were 60 that all went", frames, STATE, () -> frames.come(0, 0, 0, 0));
        Check.refuses("wrong come, if 60 went", frames, ARGUMENT, () -> frames.come(1, 0, 0, 0));
    }

    private static void comeChoosesFrames() {
        CountedFrames least = CountedFrames.row(0, 10, 20, 80, 90);
        least.come(26, 0, 26, 0);
        least.come(60, 0, 60, 0);
        ways("least growth", least, 0, 0, 0, 0, 1, 1, 0, 1);
        tells("held as the last one", least, 5, 0, 1, 2, 0, 1, 3, 2);

        CountedFrames smaller = CountedFrames.row(0, 10, 20, 30, 40);
        smaller.come(25, 0, 25, 0);
        ways("smallest hedge of equal growth", smaller, 0, 0, 0, 0, 1, 1, 1);

        CountedFrames first = CountedFrames.row(0, 10, 20, 30, 50);
        first.come(25, 0, 25, 0);
        ways("first one of equal growth and hedge", first, 0, 0, 0, 0, 1, 1, 0);

        // The hedges are 0..29 x 0..9 and 50..59 x 0..89: the nearer one would grow by fewer columns, yet more squares.
        CountedFrames squares = new CountedFrames();
        squares.come(0, 0, 9, 9);
        squares.come(10, 0, 19, 9);
        squares.come(20, 0, 29, 9);
        squares.come(50, 0, 59, 9);
        squares.come(50, 30, 59, 89);
        squares.come(45, 0, 45, 9);
        ways("squares are counted", squares, 0, 0, 0, 0, 1, 1, 0);
    }

    private static void comeSplitsFrames() {
        CountedFrames alongX = CountedFrames.row(40, 0, 30, 10, 20);
        ways("split along x", alongX, 0, 1, 0, 1, 0, 0);
        tells("split along x", alongX, 5, 1, 0, 0, 1, 2);
        counts("split along x", alongX, 5, 5, 3, 1, 41 + 21 + 11, 41, 0, 1, 2);

        CountedFrames alongY = new CountedFrames();
        int[][] places = {{0, 40}, {39, 0}, {10, 30}, {20, 10}, {30, 20}};
        for (int[] place : places) {
            alongY.come(place[0], place[1], 99, 99);
        }
        ways("split along y", alongY, 0, 1, 0, 1, 0, 0);
        tells("split along y", alongY, 5, 1, 0, 0, 1, 2);

        CountedFrames equalSpreads = new CountedFrames();
        for (int k = 0; k < 5; k++) {
            equalSpreads.come(10 * k, 40 - 10 * k, 10 * k, 40 - 10 * k);
        }
        ways("equal spreads are split along x", equalSpreads, 0, 0, 0, 0, 1, 1);

        CountedFrames equalEdges = new CountedFrames();
        for (int k = 0; k < 5; k++) {
            equalEdges.come(5 - 5 * (k % 2), 0, 50 - 10 * k, 3);
        }
        ways("equals keep their order", equalEdges, 0, 0, 0, 1, 0, 1);
        tells("equals keep their order", equalEdges, 5, 2, 0, 0, 1, 1);

        CountedFrames behind = CountedFrames.row(0, 10, 20, 80, 90, 5, 15);
        ways("the new frame stands directly behind", behind, 0, 0, 0, 1, 2, 2, 0, 1);
        tells("the new frame stands directly behind", behind, 5, 0, 2, 1, 0, 1, 1, 0);
        counts("the new frame stands directly behind", behind, 7, 7, 4, 1, 91 + 11 + 6 + 11, 91, 0, 2, 3);
    }

    private static void comeSplitsUpwards() {
        CountedFrames frames = threeLevels();
        counts("split upwards", frames, 14, 14, 8, 2, 99 + 81 + 9 + 3 * 21 + 7 + 2, 99, 0, 5, 2);
        ways("split upwards", frames, 0, 0, 0, 0, 0, 0, 0, 0, 0, 0, 1, 1, 1, 1, 1);
        ways("split upwards", frames, 1, 0, 0, 0, 1, 1, 1, 2, 2, 2, 0, 0, 0, 1, 1);
        ways("split upwards", frames, 2, -1, -1, -1, -1, -1, -1, -1, -1, -1, -1, -1, -1, -1, -1);
        tells("split upwards", frames, 5, 0, 1, 2, 0, 1, 2, 0, 1, 2, 0, 1, 2, 0, 1);
    }

    private static void goGivesUp() {
        CountedFrames frames = new CountedFrames();
        frames.come(0, 0, 9, 4);
        frames.come(10, 10, 10, 10);
        frames.come(50, 50, 59, 69);
        frames.come(20, 20, 21, 21);
        Check.equal("go(2)", frames.go(2), 200);
        tells("those behind move up", frames, 5, 0, 1, -1, 2);
        Check.equal("the hedge gets tighter", frames.count(5), 22 * 22);
        Check.equal("go(0)", frames.go(0), 50);
        tells("those behind move up", frames, 5, -1, 0, -1, 1);
        tells("those behind move up", frames, 7, -1, 144, -1, 144);
        Check.equal("go(1)", frames.go(1), 1);
        Check.equal("go(3)", frames.go(3), 4);
        counts("all went", frames, 0, 4, 1, 0, 0, 0, 0, 0, 0);
        Check.equal("come after all went", frames.come(7, 7, 8, 8), 4);
        Check.equal("the hedge is new", frames.count(5), 4);
    }

    private static void goDropsFrames() {
        CountedFrames frames = threeLevels();
        frames.goAll(0, 2);
        ways("an empty frame goes", frames, 1, -1, -1, -1, 0, 0, 0, 1, 1, 1, 0, 0, 0, 1, 1);
        counts("an empty frame goes", frames, 11, 14, 7, 2, 69 + 51 + 9 + 21 + 21 + 7 + 2, 69, 0, 5, 2);
        frames.goAll(9, 13);
        counts("the only frame held holds all", frames, 6, 14, 3, 1, 51 + 21 + 21, 51, 0, 5, 2);
        frames.goAll(6, 8);
        counts("down to one frame", frames, 3, 14, 1, 0, 21, 21, 0, 5, 3);
        ways("down to one frame", frames, 0, -1, -1, -1, -1, -1, -1);

        CountedFrames deep = threeLevels();
        deep.goAll(0, 5);
        deep.goAll(9, 11);
        counts("frames below may hold one", deep, 5, 14, 5, 2, 39 + 21 + 2 + 21 + 2, 39, 0, 5, 2);
        deep.goAll(12, 13);
        counts("two levels go at once", deep, 3, 14, 1, 0, 21, 21, 0, 5, 3);

        CountedFrames one = threeLevels();
        one.goAll(1, 13);
        counts("one that is left alone", one, 1, 14, 1, 0, 1, 1, 0, 5, 1);
    }

    private static void goRefuses() {
        CountedFrames frames = threeLevels();
        frames.go(4);
        for (int number : new int[] {-1, 14, 59, 60, 61, Integer.MIN_VALUE, Integer.MAX_VALUE}) {
            Check.refuses("go(" + number + ")", frames, INDEX, () -> frames.go(number));
        }
        Check.refuses("go again", frames, STATE, () -> frames.go(4));
        CountedFrames empty = new CountedFrames();
        Check.refuses("go, new", empty, INDEX, () -> empty.go(0));
    }

    private static void told() {
        CountedFrames frames = new CountedFrames();
        frames.come(0, 1, 9, 12);
        frames.come(9, 12, 20, 30);
        frames.come(10, 0, 12, 11);
        frames.come(9, 12, 9, 12);
        int[][] due = {
            {0, 1, 9, 12, 120, 0, 4, 21 * 31, 2},
            {9, 12, 20, 30, 12 * 19, 1, 4, 21 * 31, 2},
            {10, 0, 12, 11, 36, 2, 4, 21 * 31, 0},
            {9, 12, 9, 12, 1, 3, 4, 21 * 31, 2},
        };
        toldAll("told", frames, due);
        frames.go(1);
        int[][] dueThen = {
            {0, 1, 9, 12, 120, 0, 3, 13 * 13, 1},
            {9, 12, 20, 30, 12 * 19, -1, -1, -1, 2},
            {10, 0, 12, 11, 36, 1, 3, 13 * 13, 0},
            {9, 12, 9, 12, 1, 2, 3, 13 * 13, 1},
        };
        toldAll("told after go", frames, dueThen);
        for (int what : new int[] {-1, 9, Integer.MIN_VALUE, Integer.MAX_VALUE}) {
            Check.refuses("told(0, " + what + ")", frames, INDEX, () -> frames.told(0, what));
        }
        for (int number : new int[] {-1, 4, 60, Integer.MIN_VALUE, Integer.MAX_VALUE}) {
            Check.refuses("told(" + number + ", 0)", frames, INDEX, () -> frames.told(number, 0));
        }
        Check.unchanged("told", frames, f -> f.told(3, 8));
    }

    private static void toldAll(String title, CountedFrames frames, int[][] due) {
        for (int number = 0; number < due.length; number++) {
            for (int what = 0; what <= 8; what++) {
                Check.equal(title + "(" + number + ", " + what + ")", frames.told(number, what), due[number][what]);
            }
        }
    }

    private static void way() {
        CountedFrames frames = threeLevels();
        Check.equal("way(6, 0)", frames.way(6, 0), 0);
        Check.equal("way(6, 1)", frames.way(6, 1), 2);
        Check.equal("way(6, 2)", frames.way(6, 2), -1);
        Check.equal("way(6, MAX)", frames.way(6, Integer.MAX_VALUE), -1);
        frames.go(6);
        Check.equal("way of one that was given up", frames.way(6, 0), -1);
        Check.equal("way of one that was given up", frames.way(6, 1), -1);
        Check.refuses("way(0, -1)", frames, INDEX, () -> frames.way(0, -1));
        Check.refuses("way(6, -1)", frames, INDEX, () -> frames.way(6, -1));
        Check.refuses("way(0, MIN)", frames, INDEX, () -> frames.way(0, Integer.MIN_VALUE));
        for (int number : new int[] {-1, 14, 60, Integer.MIN_VALUE, Integer.MAX_VALUE}) {
            Check.refuses("way(" + number + ", 0)", frames, INDEX, () -> frames.way(number, 0));
        }
        Check.unchanged("way", frames, f -> f.way(7, 1));
        Check.equal("way without steps", CountedFrames.row(3).way(0, 0), -1);
    }

    private static void overlaps() {
        refusesWrongRectangles("overlaps", CountedFrames::overlaps);
        CountedFrames frames = new CountedFrames();
        Check.equal("none to overlap", frames.overlaps(0, 0, 99, 99), 0);
        frames.come(10, 10, 19, 19);
        Check.equal("at the corner 10 10", frames.overlaps(0, 0, 10, 10), 1);
        Check.equal("at the corner 19 19", frames.overlaps(19, 19, 99, 99), 1);
        Check.equal("beside it, less x", frames.overlaps(0, 0, 9, 99), 0);
        Check.equal("beside it, more x", frames.overlaps(20, 0, 99, 99), 0);
        Check.equal("beside it, less y", frames.overlaps(0, 0, 99, 9), 0);
        Check.equal("beside it, more y", frames.overlaps(0, 20, 99, 99), 0);
        Check.equal("within it", frames.overlaps(12, 12, 12, 12), 1);
        Check.equal("across it", frames.overlaps(0, 15, 99, 15), 1);
        CountedFrames row = threeLevels();
        Check.equal("some of a row", row.overlaps(20, 0, 70, 50), 6);
        row.go(3);
        Check.equal("not those given up", row.overlaps(20, 0, 70, 50), 5);
        Check.unchanged("overlaps", row, f -> f.overlaps(0, 0, 99, 99));
    }

    private static void looks() {
        refusesWrongRectangles("looks", CountedFrames::looks);
        CountedFrames frames = threeLevels();
        Check.equal("all frames", frames.looks(0, 0, 99, 99), 8);
        Check.equal("the one that holds all, apart from it", frames.looks(0, 1, 99, 99), 1);
        Check.equal("between two frames with allotments", frames.looks(25, 0, 25, 0), 2);
        Check.equal("between two allotments", frames.looks(35, 0, 36, 0), 3);
        Check.equal("at the edges of hedges", frames.looks(20, 0, 30, 0), 4);
        Check.equal("of both frames", frames.looks(80, 0, 90, 0), 5);
        frames.goAll(0, 2);
        Check.equal("all frames that are left", frames.looks(0, 0, 99, 99), 7);
        Check.unchanged("looks", frames, f -> f.looks(0, 0, 99, 99));
    }

    private static void nearest() {
        CountedFrames frames = new CountedFrames();
        for (int wrong : new int[] {-1, 100, Integer.MIN_VALUE, Integer.MAX_VALUE}) {
            Check.refuses("nearest(" + wrong + ", 0)", frames, ARGUMENT, () -> frames.nearest(wrong, 0));
            Check.refuses("nearest(0, " + wrong + ")", frames, ARGUMENT, () -> frames.nearest(0, wrong));
        }
        Check.equal("none", frames.nearest(50, 50), -1);
        frames.come(0, 0, 9, 9);
        frames.come(20, 0, 29, 9);
        frames.come(13, 14, 13, 14);
        frames.come(8, 8, 21, 8);
        Check.equal("within the first of two", frames.nearest(8, 8), 0);
        Check.equal("within the second of two", frames.nearest(21, 8), 1);
        // 13 14 is 5 away along y; 9 9 is 3 and 4 away, hence 25 as well.
        Check.equal("of equals the smallest number", frames.nearest(13, 9), 3);
        frames.go(3);
        Check.equal("not one given up", frames.nearest(12, 9), 0);
        Check.equal("squared and added", frames.nearest(12, 13), 2);
        Check.equal("at the far corner", frames.nearest(99, 99), 1);
        Check.equal("at the corner 99 0", frames.nearest(99, 0), 1);
        Check.equal("at the corner 0 99", frames.nearest(0, 99), 2);
        Check.unchanged("nearest", frames, f -> f.nearest(0, 0));

        CountedFrames equals = new CountedFrames();
        equals.come(0, 0, 0, 0);
        equals.come(3, 4, 3, 4);
        equals.come(8, 4, 9, 9);
        // From 3 9 it is 5 to allotment 1, and 5 to allotment 2.
        Check.equal("of equals the smaller number", equals.nearest(3, 9), 1);
        Check.equal("the least of all", equals.nearest(8, 0), 2);
        // From 0 7: 49 to 0, 9 + 9 to 1, 64 to 2.
        Check.equal("not along one of both alone", equals.nearest(0, 7), 1);
    }

    private static void count() {
        CountedFrames frames = threeLevels();
        for (int what : new int[] {-1, 9, Integer.MIN_VALUE, Integer.MAX_VALUE}) {
            Check.refuses("count(" + what + ")", frames, INDEX, () -> frames.count(what));
        }
        Check.unchanged("count", frames, f -> f.count(4));

        // Sorted by x1 these are 0 1 2 | 3 4: the hedges 0..30 x 0..9 and 30..50 x 0..9 have a column in common.
        CountedFrames pairs = new CountedFrames();
        pairs.come(0, 0, 5, 9);
        pairs.come(10, 0, 15, 9);
        pairs.come(20, 0, 30, 9);
        pairs.come(30, 0, 35, 9);
        pairs.come(40, 0, 50, 9);
        counts("hedges that overlap", pairs, 5, 5, 3, 1, 510 + 310 + 210, 510, 1, 1, 2);
        pairs.go(2);
        counts("hedges that overlap no more", pairs, 4, 5, 3, 1, 510 + 160 + 210, 510, 0, 1, 2);

        // All reach to 99, so that all three hedges overlap, those of the first and the last frame too.
        CountedFrames three = new CountedFrames();
        for (int x : new int[] {0, 10, 20, 30, 40, 50, 60, 70}) {
            three.come(x, 0, 99, 0);
        }
        Check.equal("frames held beside each other", three.count(8), 3);
        Check.equal("all pairs count", three.count(6), 3);
    }

    private static void grows() {
        refusesWrongRectangles("grows", CountedFrames::grows);
        CountedFrames frames = new CountedFrames();
        Check.equal("grows of one that holds nothing", frames.grows(5, 5, 6, 9), 10);
        Check.equal("grows of one that holds nothing, all", frames.grows(0, 0, 99, 99), 10000);
        frames.come(10, 10, 19, 19);
        Check.equal("grows by nothing", frames.grows(12, 12, 19, 19), 0);
        Check.equal("grows towards less", frames.grows(9, 8, 9, 8), 11 * 12 - 100);
        Check.equal("grows towards more", frames.grows(20, 21, 20, 21), 11 * 12 - 100);
        CountedFrames deep = threeLevels();
        Check.equal("grows on all the way", deep.grows(99, 0, 99, 0), 3);
        Check.equal("grows below alone", deep.grows(25, 0, 25, 0), 5);
        Check.equal("grows in the middle too", deep.grows(88, 0, 88, 0), 4);
        Check.equal("grows ahead of splitting", CountedFrames.row(0, 10, 20, 30).grows(50, 0, 50, 0), 20);
        deep.go(13);
        Check.equal("grows after go", deep.grows(99, 0, 99, 0), 6);
        frames.goAll(0, 0);
        Check.equal("grows after all went", frames.grows(12, 12, 12, 12), 1);
        Check.unchanged("grows", deep, f -> f.grows(0, 0, 99, 99));
    }

    private static void splits() {
        refusesWrongRectangles("splits", CountedFrames::splits);
        CountedFrames frames = CountedFrames.row(0, 10, 20);
        Check.equal("splits of 3", frames.splits(0, 0, 0, 0), 0);
        frames.come(30, 0, 30, 0);
        Check.equal("splits of 4", frames.splits(0, 0, 0, 0), 1);
        CountedFrames deep = CountedFrames.row(0, 10, 20, 30, 40, 50, 60, 70, 80, 90, 95, 96, 97);
        Check.equal("splits upwards", deep.splits(98, 0, 98, 0), 2);
        Check.equal("splits, where there is room", deep.splits(0, 0, 0, 0), 0);
        int before = deep.count(7);
        Check.unchanged("splits", deep, f -> f.splits(98, 0, 98, 0));
        deep.come(98, 0, 98, 0);
        Check.equal("splits as told", deep.count(7) - before, 2);

        CountedFrames full = new CountedFrames();
        for (int number = 0; number < 56; number++) {
            full.come(number, 0, number, 0);
            full.go(number);
        }
        for (int number = 56; number < 60; number++) {
            full.come(number, 0, number, 0);
        }
        Check.equal("one full frame, and there were 60", full.splits(0, 0, 0, 0), 1);
        Check.equal("grows, and there were 60", full.grows(60, 0, 60, 0), 1);
    }

    private static void mean() {
        CountedFrames frames = new CountedFrames();
        Check.equal("mean of none", frames.mean(), 0.0);
        frames.come(0, 0, 0, 0);
        Check.equal("mean of one", frames.mean(), 1.0);
        frames.come(0, 0, 0, 0);
        frames.come(0, 0, 1, 0);
        Check.equal("mean of three", frames.mean(), 4.0 / 3.0);
        frames.go(0);
        Check.equal("mean of those held", frames.mean(), 1.5);
        frames.go(1);
        frames.go(2);
        Check.equal("mean, if all went", frames.mean(), 0.0);
        CountedFrames large = new CountedFrames();
        for (int number = 0; number < 60; number++) {
            large.come(0, 0, 99, 99);
        }
        Check.equal("mean of the largest", large.mean(), 10000.0);
        Check.unchanged("mean", large, f -> f.mean());
    }

    private static void digest() {
        CountedFrames frames = new CountedFrames();
        Check.equal("digest, new", frames.digest(), Check.folded(0, 0, 1, 0, 0, 0, 0, 0, 0, 0, 0, 0, 0, 0));
        frames.come(3, 4, 5, 7);
        frames.come(3, 8, 3, 8);
        frames.go(0);
        Check.equal("digest of one frame", frames.digest(), Check.folded(
            1, 2, 1, 0, 1, 1, 0, 0, 1,
            3, 4, 5, 7, 12, -1, -1, -1, 0,
            3, 8, 3, 8, 1, 0, 1, 1, 0,
            1, 3, 8, 3, 8, 1));
        frames.go(1);
        Check.equal("digest, none held", frames.digest(), Check.folded(
            0, 2, 1, 0, 0, 0, 0, 0, 0,
            3, 4, 5, 7, 12, -1, -1, -1, 0,
            3, 8, 3, 8, 1, -1, -1, -1, 0,
            0, 0, 0, 0, 0));
        CountedFrames two = CountedFrames.row(40, 0, 30, 10, 20);
        Check.equal("digest of nested frames", two.digest(), Check.folded(
            5, 5, 3, 1, 73, 41, 0, 1, 2,
            40, 0, 40, 0, 1, 1, 2, 11, 0,
            0, 0, 0, 0, 1, 0, 3, 21, 0,
            30, 0, 30, 0, 1, 0, 2, 11, 0,
            10, 0, 10, 0, 1, 1, 3, 21, 0,
            20, 0, 20, 0, 1, 2, 3, 21, 0,
            2, 0, 0, 40, 0,
            3, 0, 0, 20, 0, 1, 3, 4,
            2, 30, 0, 40, 0, 2, 0));
        Check.unchanged("digest", two, f -> f.digest());
    }
}
