/** One test for each sentence of the document's "Terms" that names a boundary; the answers are worked out by hand. */
public final class TermsTest {
    private static final Class<?> ARGUMENT = IllegalArgumentException.class;
    private static final Class<?> STATE = IllegalStateException.class;
    private static final Class<?> INDEX = IndexOutOfBoundsException.class;

    private TermsTest() {
    }

    public static void main(String[] arguments) {
        allotments();
        frames();
        coming();
        splitting();
        splittingUpwards();
        going();
        throwing();
        Check.end("TermsTest");
    }

    private static void allotments() {
        Check.sentence("An object is used for at most 512 calls", TermsTest::last512thCall);
        Check.sentence("There are at most 60 in all", TermsTest::atMost60);
        Check.sentence("There are at most 60 in all, those given up too", TermsTest::atMost60WithThoseGivenUp);
        Check.sentence("numbered from 0 in the order of their coming", TermsTest::numberedByComing);
        Check.sentence("from x1 to x2 and y from y1 to y2 (with both)", TermsTest::withBothEnds);
        Check.sentence("(0 to 99)", TermsTest::squaresFrom0To99);
        Check.sentence("Area: its squares", TermsTest::areas);
        Check.sentence("Two rectangles overlap, if they have a square in common", TermsTest::squareInCommon);
    }

    private static void frames() {
        Check.sentence("A frame holds 0 to 4 allotments", TermsTest::upToFourAllotments);
        Check.sentence("or 1 to 4 frames", TermsTest::upToFourFrames);
        Check.sentence("or 1 to 4 frames, 1 too", TermsTest::oneFrameBelow);
        Check.sentence("The hedge: the smallest rectangle", TermsTest::smallestHedge);
        Check.sentence("none, if it holds nothing", TermsTest::noHedge);
        Check.sentence("all allotments lie equally deep", TermsTest::equallyDeep);
        Check.sentence("At first there is one frame, which holds nothing", TermsTest::atFirst);
    }

    private static void coming() {
        Check.sentence("down to one that holds allotments (or nothing)", TermsTest::comesWhereNothingIsHeld);
        Check.sentence("each time to that of the frames held", TermsTest::comesDownByEachStep);
        Check.sentence("would grow by the fewest squares", TermsTest::fewestSquares);
        Check.sentence("the fewest squares, not columns", TermsTest::squaresNotColumns);
        Check.sentence("to have all of the new one", TermsTest::growsForAllOfIt);
        Check.sentence("of several to that with the smallest area", TermsTest::smallestArea);
        Check.sentence("of several that need not grow to the smallest area", TermsTest::smallestAreaWithoutGrowth);
        Check.sentence("of several to the first one", TermsTest::firstOne);
        Check.sentence("There the new one is held, as the last one", TermsTest::asTheLastOne);
    }

    private static void splitting() {
        Check.sentence("A frame that holds 5 then is split", TermsTest::splitAt5);
        Check.sentence("along x, if .. is not less than the same along y", TermsTest::axisOfSplit);
        Check.sentence("the greatest lower edge .. less the least one", TermsTest::greatestLessLeast);
        Check.sentence("lower edge along x of what it holds (x1)", TermsTest::lowerEdgesAlone);
        Check.sentence("All 5 stand by their lower edges, the smallest first", TermsTest::smallestFirst);
        Check.sentence("of equals in the order in which they were held", TermsTest::equalsStayInOrder);
        Check.sentence("in which they were held, not that of their numbers", TermsTest::orderIsNotByNumber);
        Check.sentence("the first 3 stay, the other 2 are held by a new frame", TermsTest::threeStay);
        Check.sentence("held directly behind the one that was split", TermsTest::directlyBehind);
        Check.sentence("if that holds all, both are held by a new one", TermsTest::splitOfTheOneThatHoldsAll);
    }

    private static void splittingUpwards() {
        Check.sentence("it is looked whether the frame that holds these has 5", TermsTest::looksUpwards);
        Check.sentence("and so on upwards (splits)", TermsTest::splitsOnUpwards);
        Check.sentence("and so on upwards (as far as 60 reach)", TermsTest::fourSplitsAtOnce);
        Check.sentence("x1, of a hedge likewise", TermsTest::axisOfHedges);
        Check.sentence("of equals among hedges in the order", TermsTest::equalHedgesStayInOrder);
    }

    private static void going() {
        Check.sentence("the allotment is held no more", TermsTest::heldNoMore);
        Check.sentence("those behind it move up", TermsTest::thoseBehindMoveUp);
        Check.sentence("A frame that holds nothing then is held no more likewise", TermsTest::emptyFrameGoes);
        Check.sentence("(but the one that holds all)", TermsTest::oneThatHoldsAllStays);
        Check.sentence("and so on upwards (goings)", TermsTest::emptyFramesGoUpwards);
        Check.sentence("the one that holds all holds just one frame", TermsTest::justOneFrame);
        Check.sentence("As long as it holds just one frame", TermsTest::asLongAsItHoldsOne);
        Check.sentence("As long as it holds just one frame (as far as 60 reach)", TermsTest::fourStepsGoAtOnce);
        Check.sentence("just one frame, not one allotment", TermsTest::justOneAllotment);
    }

    private static void throwing() {
        Check.sentence("A method that throws an exception changes nothing", TermsTest::throwingChangesNothing);
        Check.sentence("the one that is named first is thrown", TermsTest::firstNamedIsThrown);
    }

    private static int[] square(int x, int y) {
        return new int[] {x, y, x, y};
    }

    // ---- allotments

    private static void last512thCall() {
        CountedFrames frames = CountedFrames.longRow(14, 5);
        while (frames.calls() < CountedFrames.MOST_CALLS - 3) {
            Check.equal("a call before", frames.overlaps(0, 0, 65, 0), 14);
        }
        Check.equal("the 510th call", frames.go(0), 1);
        Check.equal("the 511th call", frames.come(0, 0, 0, 9), 14);
        Check.equal("the 512th call", frames.told(14, 4), 10);
    }

    private static void atMost60() {
        CountedFrames frames = CountedFrames.longRow(58, 1);
        Check.equal("come, if there were 58", frames.come(58, 0, 58, 0), 58);
        Check.equal("come, if there were 59", frames.come(59, 0, 59, 0), 59);
        Check.refuses("come, if there were 60", frames, STATE, () -> frames.come(60, 0, 60, 0));
        Check.refuses("come again, if there were 60", frames, STATE, () -> frames.come(0, 0, 99, 99));
        Check.equal("those that came", frames.count(1), 60);
        Check.equal("those that are held", frames.count(0), 60);
        Check.equal("the last one", frames.told(59, 0), 59);
        Check.refuses("told of a 61st", frames, INDEX, () -> frames.told(60, 0));
    }

    private static void atMost60WithThoseGivenUp() {
        CountedFrames frames = new CountedFrames();
        for (int number = 0; number < 59; number++) {
            frames.come(number, 1, number, 2);
            frames.go(number);
        }
        Check.equal("held, if 59 were given up", frames.count(0), 0);
        Check.equal("come, if 59 were given up", frames.come(7, 7, 7, 7), 59);
        Check.refuses("come, if 59 of 60 were given up", frames, STATE, () -> frames.come(1, 1, 1, 1));
        frames.go(59);
        Check.refuses("come, if 60 were given up", frames, STATE, () -> frames.come(1, 1, 1, 1));
        Check.equal("after 60 were given up", frames.counts(), "0 60 1 0 0 0 0 0 0");
    }

    private static void numberedByComing() {
        CountedFrames frames = new CountedFrames();
        Check.equal("the first one", frames.come(50, 0, 50, 0), 0);
        Check.equal("the second one, ahead of it by its x", frames.come(1, 0, 1, 0), 1);
        frames.go(0);
        Check.equal("the third one, the first was given up", frames.come(2, 0, 2, 0), 2);
        frames.goAll(1, 2);
        Check.equal("the fourth one, none is held", frames.come(3, 0, 3, 0), 3);
        Check.equal("x1 of all", frames.tells(0), "50 1 2 3");
        Check.refuses("told of a fifth one", frames, INDEX, () -> frames.told(4, 0));
    }

    private static void withBothEnds() {
        CountedFrames frames = new CountedFrames();
        frames.come(10, 20, 12, 23);
        Check.equal("its squares", frames.told(0, 4), 12);
        Check.equal("at x1", frames.overlaps(10, 21, 10, 21), 1);
        Check.equal("ahead of x1", frames.overlaps(9, 21, 9, 21), 0);
        Check.equal("at x2", frames.overlaps(12, 21, 12, 21), 1);
        Check.equal("behind x2", frames.overlaps(13, 21, 13, 21), 0);
        Check.equal("at y1", frames.overlaps(11, 20, 11, 20), 1);
        Check.equal("ahead of y1", frames.overlaps(11, 19, 11, 19), 0);
        Check.equal("at y2", frames.overlaps(11, 23, 11, 23), 1);
        Check.equal("behind y2", frames.overlaps(11, 24, 11, 24), 0);
    }

    private static void squaresFrom0To99() {
        int[][] taken = {{0, 0, 99, 99}, {0, 0, 0, 0}, {99, 99, 99, 99}, {0, 99, 0, 99}, {99, 0, 99, 0}, {1, 1, 98, 98}};
        CountedFrames frames = CountedFrames.of(taken);
        for (int number = 0; number < taken.length; number++) {
            for (int what = 0; what < 4; what++) {
                Check.equal("told(" + number + ", " + what + ")", frames.told(number, what), taken[number][what]);
            }
        }
        int[][] outside = {{-1, 0, 99, 99}, {0, -1, 99, 99}, {0, 0, 100, 99}, {0, 0, 99, 100}};
        for (int[] r : outside) {
            Check.refuses("a come outside", frames, ARGUMENT, () -> frames.come(r[0], r[1], r[2], r[3]));
        }
    }

    private static void areas() {
        CountedFrames frames = CountedFrames.of(new int[][] {
            {7, 8, 7, 8}, {7, 8, 8, 8}, {7, 8, 7, 9}, {0, 0, 99, 0}, {99, 0, 99, 99}, {0, 0, 99, 99}, {3, 5, 9, 6}});
        Check.equal("areas", frames.tells(4), "1 2 2 100 100 10000 14");
    }

    private static void squareInCommon() {
        int[] base = {40, 40, 49, 49};
        int[][] common = {{30, 30, 40, 40}, {49, 49, 60, 60}, {49, 30, 60, 40}, {30, 49, 40, 60}, {0, 44, 99, 45},
            {44, 0, 45, 99}, {0, 0, 99, 99}, {44, 45, 44, 45}, {40, 40, 49, 49}, {49, 0, 49, 99}, {0, 40, 99, 40}};
        int[][] apart = {{30, 30, 39, 40}, {30, 30, 40, 39}, {50, 49, 60, 60}, {49, 50, 60, 60}, {49, 30, 60, 39},
            {50, 30, 60, 40}, {30, 50, 40, 60}, {30, 49, 39, 60}, {0, 0, 99, 39}, {0, 50, 99, 99}, {0, 0, 39, 99},
            {50, 0, 99, 99}};
        for (int[] other : common) {
            overlapsBothWays(base, other, 1);
        }
        for (int[] other : apart) {
            overlapsBothWays(base, other, 0);
        }
    }

    private static void overlapsBothWays(int[] a, int[] b, int due) {
        String title = "with " + b[0] + ", " + b[1] + ", " + b[2] + ", " + b[3];
        CountedFrames first = CountedFrames.of(a);
        Check.equal(title, first.overlaps(b[0], b[1], b[2], b[3]), due);
        CountedFrames second = CountedFrames.of(b);
        Check.equal(title + " turned", second.overlaps(a[0], a[1], a[2], a[3]), due);
        Check.equal(title + " both held", CountedFrames.of(a, b).tells(8), due + " " + due);
    }

    // ---- frames

    private static void upToFourAllotments() {
        CountedFrames frames = new CountedFrames();
        Check.equal("with 0", frames.count(8), 0);
        for (int size = 1; size <= 4; size++) {
            frames.come(10 * size, 0, 10 * size, 0);
            Check.equal("frames", frames.count(2), 1);
            Check.equal("held by it", frames.count(8), size);
            Check.equal("allotments of its frame", frames.told(size - 1, 6), size);
        }
        frames.come(50, 0, 50, 0);
        Check.equal("frames with 5", frames.count(2), 3);
        Check.equal("allotments of the frames with 5", frames.tells(6), "3 3 3 2 2");
    }

    private static void upToFourFrames() {
        // 0..10, 15..25, 30..40 and 45..60 along x, and 0..60 around them.
        CountedFrames four = CountedFrames.longRow(13, 5);
        Check.equal("four frames held", four.counts(), "13 13 5 1 " + (11 + 11 + 11 + 16 + 61) + " 61 0 3 4");
        // 0..10, 15..25, 30..40 in 0..40, and 45..55, 60..65 in 45..65.
        CountedFrames five = CountedFrames.longRow(14, 5);
        Check.equal("a fifth one", five.counts(), "14 14 8 2 " + (4 * 11 + 6 + 41 + 21 + 66) + " 66 0 5 2");
        Check.equal("of the first", five.ways(0), "0 0 0 0 0 0 0 0 0 1 1 1 1 1");
    }

    private static void oneFrameBelow() {
        // Frames of frames: 0..32, 36..68 and 72..88 along x; the middle one loses two of its three.
        CountedFrames frames = CountedFrames.longRow(23, 4);
        frames.goAll(9, 13);
        Check.equal("two frames below", frames.counts(),
            "18 23 11 2 " + (89 + 33 + 13 + 17 + 9 * 3 + 1 + 9 + 9 + 5) + " 89 0 9 3");
        frames.go(14);
        Check.equal("one frame below", frames.counts(),
            "17 23 10 2 " + (89 + 33 + 9 + 17 + 9 * 3 + 9 + 9 + 5) + " 89 0 9 3");
        Check.equal("the way to it", frames.way(15, 0) + " " + frames.way(15, 1), "1 0");
    }

    private static void smallestHedge() {
        int[][] sides = {{10, 50, 20, 60}, {50, 10, 60, 20}, {80, 50, 90, 60}, {50, 80, 60, 90}};
        Check.equal("all sides", CountedFrames.of(sides).count(5), 81 * 81);
        Check.equal("no more than these", CountedFrames.of(sides).grows(10, 10, 90, 90), 0);
        // Whichever of them stands first, the hedge is the same.
        for (int turn = 1; turn < 4; turn++) {
            CountedFrames turned = CountedFrames.of(
                sides[turn], sides[(turn + 1) % 4], sides[(turn + 2) % 4], sides[(turn + 3) % 4]);
            Check.equal("all sides, turned", turned.count(5), 81 * 81);
            Check.equal("no more than these, turned", turned.grows(10, 10, 90, 90), 0);
        }
        int[] dueWithout = {41 * 81, 81 * 41, 51 * 81, 81 * 51};
        int[][] dueHedge = {{50, 10, 90, 90}, {10, 50, 90, 90}, {10, 10, 60, 90}, {10, 10, 90, 60}};
        for (int side = 0; side < 4; side++) {
            CountedFrames frames = CountedFrames.of(sides);
            frames.go(side);
            int[] r = dueHedge[side];
            Check.equal("without side " + side, frames.count(5), dueWithout[side]);
            Check.equal("its place without side " + side, frames.grows(r[0], r[1], r[2], r[3]), 0);
        }
    }

    private static void noHedge() {
        CountedFrames frames = new CountedFrames();
        Check.equal("areas of a new one", frames.count(4) + " " + frames.count(5), "0 0");
        Check.equal("squares at 0 0 for it", frames.grows(0, 0, 0, 0), 1);
        frames.come(0, 0, 0, 0);
        Check.equal("with one square at 0 0", frames.count(4) + " " + frames.count(5), "1 1");
        frames.go(0);
        Check.equal("after it went", frames.count(4) + " " + frames.count(5), "0 0");
        Check.equal("squares at 50 50 then", frames.grows(50, 50, 51, 51), 4);
    }

    private static void equallyDeep() {
        for (int length : new int[] {1, 4, 5, 13, 14, 40, 41, 60}) {
            CountedFrames frames = CountedFrames.longRow(length, 1);
            int steps = frames.count(3);
            Check.equal("steps of " + length, steps, length < 5 ? 0 : length < 14 ? 1 : length < 41 ? 2 : 3);
            for (int number = 0; number < length; number++) {
                Check.equal("behind the last step to " + number, frames.way(number, steps), -1);
                Check.isTrue("the last step to " + number, steps == 0 || frames.way(number, steps - 1) >= 0);
            }
        }
    }

    private static void atFirst() {
        CountedFrames frames = new CountedFrames();
        Check.equal("counts", frames.counts(), "0 0 1 0 0 0 0 0 0");
        Check.equal("looks", frames.looks(0, 0, 99, 99), 1);
    }

    // ---- coming

    private static void comesWhereNothingIsHeld() {
        CountedFrames fresh = CountedFrames.of(square(5, 5));
        Check.equal("the first one", fresh.counts(), "1 1 1 0 1 1 0 0 1");
        CountedFrames emptied = CountedFrames.longRow(14, 5);
        emptied.goAll(0, 13);
        Check.equal("emptied", emptied.counts(), "0 14 1 0 0 0 0 5 0");
        emptied.come(5, 5, 6, 6);
        Check.equal("the first one then", emptied.counts(), "1 15 1 0 4 4 0 5 1");
        Check.equal("its place", emptied.told(14, 5), 0);
        Check.equal("its way", emptied.way(14, 0), -1);
    }

    private static void comesDownByEachStep() {
        // Two frames of frames: 0..10, 15..25, 30..40 and 45..55, 60..65 along x.
        CountedFrames frames = CountedFrames.longRow(14, 5);
        // The second of both would grow by 3, the first by 2; below, the last one by 2, the one ahead of it by 17.
        frames.come(42, 0, 42, 0);
        Check.equal("42", frames.way(14, 0) + " " + frames.way(14, 1), "0 2");
        frames.come(57, 0, 57, 0);
        Check.equal("57", frames.way(15, 0) + " " + frames.way(15, 1), "1 0");
        // That frame is 45..57 now and is split, so that 57 and 58 are held by a new one.
        frames.come(58, 0, 58, 0);
        Check.equal("58", frames.way(16, 0) + " " + frames.way(16, 1), "1 1");
        frames.come(99, 0, 99, 0);
        Check.equal("99", frames.way(17, 0) + " " + frames.way(17, 1), "1 2");
    }

    private static int stepOfNew(CountedFrames frames, int x1, int y1, int x2, int y2) {
        return frames.way(frames.come(x1, y1, x2, y2), 0);
    }

    private static void fewestSquares() {
        // The hedges are 0..20 and 40..60.
        int[] xs = {0, 10, 20, 40, 60};
        Check.equal("9 squares and 11", stepOfNew(CountedFrames.row(xs), 29, 0, 29, 0), 0);
        Check.equal("11 squares and 9", stepOfNew(CountedFrames.row(xs), 31, 0, 31, 0), 1);
        // The fewest squares come ahead of the smallest area: 0..20 and 40..41.
        int[] smallSecond = {0, 10, 20, 40, 41};
        Check.equal("9 squares and 11, area 21 and 2", stepOfNew(CountedFrames.row(smallSecond), 29, 0, 29, 0), 0);
        // And ahead of the order: 0..2 and 40..60.
        int[] smallFirst = {0, 1, 2, 40, 60};
        Check.equal("20 squares and 18, area 3 and 21", stepOfNew(CountedFrames.row(smallFirst), 22, 0, 22, 0), 1);
    }

    private static void squaresNotColumns() {
        // The first frame, 0..32 x 0..9, would grow by 13 x 10; the second one by 5 columns of its height.
        for (int top : new int[] {24, 25, 26}) {
            CountedFrames frames = CountedFrames.of(new int[][] {
                {0, 0, 9, 9}, {10, 0, 19, 9}, {23, 0, 32, 9}, {50, 0, 59, 9}, {51, 0, 59, top}});
            // 125, 130 and 135 squares; at 130 the second one is chosen by its area, 260 to 330.
            Check.equal("up to " + top, stepOfNew(frames, 45, 0, 45, 9), top == 26 ? 0 : 1);
        }
    }

    private static void growsForAllOfIt() {
        // 0..20 and 40..60: the new one starts in the first hedge, yet ends far in the second one.
        int[] xs = {0, 10, 20, 40, 60};
        Check.equal("20..38", stepOfNew(CountedFrames.row(xs), 20, 0, 38, 0), 0);
        Check.equal("20..39", stepOfNew(CountedFrames.row(xs), 20, 0, 39, 0), 0);
        Check.equal("20..40", stepOfNew(CountedFrames.row(xs), 20, 0, 40, 0), 0);
        Check.equal("20..41", stepOfNew(CountedFrames.row(xs), 20, 0, 41, 0), 1);
        Check.equal("19..41", stepOfNew(CountedFrames.row(xs), 19, 0, 41, 0), 0);
        // Along y: the first would grow by 20 rows of 21, the second by 20 columns to the right and 20 rows.
        CountedFrames high = CountedFrames.row(xs);
        Check.equal("20 rows up", stepOfNew(high, 20, 0, 20, 20), 0);
    }

    private static void smallestArea() {
        // Both would grow by 10 squares at 30; the first hedge has 21.
        Check.equal("21 and 20", stepOfNew(CountedFrames.row(0, 10, 20, 40, 59), 30, 0, 30, 0), 1);
        Check.equal("21 and 21", stepOfNew(CountedFrames.row(0, 10, 20, 40, 60), 30, 0, 30, 0), 0);
        Check.equal("21 and 22", stepOfNew(CountedFrames.row(0, 10, 20, 40, 61), 30, 0, 30, 0), 0);
        // Areas of hedges, not of what is held: 21 and 20, though the allotments of the second have more.
        CountedFrames wide = CountedFrames.of(square(0, 0), square(10, 0), square(20, 0),
            new int[] {40, 0, 50, 0}, new int[] {45, 0, 59, 0});
        Check.equal("hedges of 21 and 20", stepOfNew(wide, 30, 0, 30, 0), 1);
    }

    private static void smallestAreaWithoutGrowth() {
        for (int right : new int[] {59, 60, 61}) {
            CountedFrames frames = CountedFrames.of(new int[][] {
                {30, 0, 50, 9}, {31, 0, 32, 9}, {32, 0, 33, 9}, {40, 0, right, 9}, {41, 0, 41, 9}});
            Check.equal("210 and " + (right - 39) * 10, stepOfNew(frames, 45, 5, 46, 6), right == 59 ? 1 : 0);
        }
    }

    private static void firstOne() {
        Check.equal("of two", stepOfNew(CountedFrames.row(0, 10, 20, 40, 60), 30, 0, 30, 0), 0);
        // 0..2, 30..50 and 70..90: the second and the third one would grow by 10 each.
        int[] three = {0, 1, 2, 30, 40, 50, 70, 90};
        Check.equal("of the last two of three", stepOfNew(CountedFrames.row(three), 60, 0, 60, 0), 1);
        // 0..20, 40..60 and 80..90: the first and the second one would grow by 10 each, the third one by 50.
        int[] ahead = {0, 10, 20, 40, 50, 60, 80, 90};
        Check.equal("of the first two of three", stepOfNew(CountedFrames.row(ahead), 30, 0, 30, 0), 0);
        // Both have all squares of the new one, and 300 in all.
        CountedFrames alike = CountedFrames.of(new int[][] {{30, 0, 59, 9}, {31, 0, 59, 9}, {32, 0, 59, 9},
            {33, 0, 62, 9}, {34, 0, 62, 9}});
        Check.equal("of two without growth", stepOfNew(alike, 40, 2, 40, 2), 0);
    }

    private static void asTheLastOne() {
        CountedFrames frames = CountedFrames.row(50, 60);
        frames.come(10, 0, 10, 0);
        Check.equal("behind two", frames.tells(5), "0 1 2");
        frames.go(0);
        frames.come(5, 0, 5, 0);
        Check.equal("behind those that moved up", frames.tells(5), "-1 0 1 2");
        frames.come(0, 0, 99, 99);
        Check.equal("behind three", frames.tells(5), "-1 0 1 2 3");
        CountedFrames nested = CountedFrames.row(0, 10, 20, 80, 90);
        nested.come(5, 0, 5, 0);
        Check.equal("in a frame below", nested.tells(5), "0 1 2 0 1 3");
    }

    // ---- splitting

    private static void splitAt5() {
        CountedFrames frames = CountedFrames.row(0, 10, 20, 30);
        Check.equal("with 4", frames.counts(), "4 4 1 0 31 31 0 0 4");
        frames.come(40, 0, 40, 0);
        Check.equal("with 5", frames.counts(), "5 5 3 1 73 41 0 1 2");
        // Four held again after a going: 5 in all came, yet none holds 5.
        CountedFrames again = CountedFrames.row(0, 10, 20, 30);
        again.go(1);
        again.come(40, 0, 40, 0);
        Check.equal("with 4 of 5 that came", again.counts(), "4 5 1 0 41 41 0 0 4");
        again.come(50, 0, 50, 0);
        Check.equal("with 5 of 6 that came", again.counts(), "5 6 3 1 93 51 0 1 2");
    }

    /** The rectangles at these x1 and y1; all others of their edges are equal. */
    private static CountedFrames fiveAt(int[] xs, int[] ys, int x2, int y2) {
        CountedFrames frames = new CountedFrames();
        for (int k = 0; k < 5; k++) {
            frames.come(xs[k], ys[k], x2 < 0 ? xs[k] : x2, y2 < 0 ? ys[k] : y2);
        }
        return frames;
    }

    private static void axisOfSplit() {
        int[] xs = {0, 10, 20, 30, 40};
        String alongX = "0 0 0 1 1";
        String alongY = "1 1 0 0 0";
        Check.equal("40 and 39", fiveAt(xs, new int[] {39, 30, 20, 10, 0}, -1, -1).ways(0), alongX);
        Check.equal("40 and 40", fiveAt(xs, new int[] {40, 30, 20, 10, 0}, -1, -1).ways(0), alongX);
        Check.equal("40 and 41", fiveAt(xs, new int[] {41, 30, 20, 10, 0}, -1, -1).ways(0), alongY);
        Check.equal("0 and 0", fiveAt(new int[5], new int[5], 0, 0).ways(0), "0 0 0 1 1");
        Check.equal("0 and 1", fiveAt(new int[5], new int[] {1, 1, 0, 0, 0}, 1, 1).ways(0), alongY);
        Check.equal("1 and 0", fiveAt(new int[] {1, 1, 0, 0, 0}, new int[5], 1, 1).ways(0), "1 1 0 0 0");
        Check.equal("99 and 0", CountedFrames.row(99, 0, 1, 2, 3).ways(0), "1 0 0 0 1");
    }

    private static void greatestLessLeast() {
        // The greatest edges are 90 along x and 41 or 40 along y, yet what counts is 40 (90 less 50) and 41 or 40.
        int[] xs = {50, 60, 70, 80, 90};
        Check.equal("40 and 41", fiveAt(xs, new int[] {41, 30, 20, 10, 0}, -1, -1).ways(0), "1 1 0 0 0");
        Check.equal("40 and 40", fiveAt(xs, new int[] {40, 30, 20, 10, 0}, -1, -1).ways(0), "0 0 0 1 1");
        // The greatest and the least one, not the last and the first one that are held.
        int[] folded = {20, 40, 0, 30, 21};
        Check.equal("40 and 40, mixed", fiveAt(folded, new int[] {40, 30, 20, 10, 0}, -1, -1).ways(0), "0 1 0 1 0");
        Check.equal("40 and 41, mixed", fiveAt(folded, new int[] {41, 30, 20, 10, 0}, -1, -1).ways(0), "1 1 0 0 0");
        int[] foldedY = {20, 41, 0, 30, 21};
        Check.equal("40 and 41, y mixed", fiveAt(new int[] {0, 10, 20, 30, 40}, foldedY, -1, -1).ways(0), "0 1 0 1 0");
    }

    private static void lowerEdgesAlone() {
        // The upper edges are all equal.
        int[] xs = {40, 30, 20, 10, 0};
        Check.equal("along x", fiveAt(xs, new int[] {0, 10, 20, 30, 39}, 99, 99).ways(0), "1 1 0 0 0");
        Check.equal("along y", fiveAt(xs, new int[] {0, 10, 20, 30, 41}, 99, 99).ways(0), "0 0 0 1 1");
        // The upper edges along x are farther apart than any others, and stand in another order.
        CountedFrames mixed = CountedFrames.of(new int[][] {
            {0, 9, 99, 9}, {1, 4, 80, 4}, {2, 3, 60, 3}, {3, 2, 40, 2}, {4, 0, 5, 0}});
        Check.equal("along y in spite of x2", mixed.ways(0), "1 1 0 0 0");
        CountedFrames wide = CountedFrames.of(new int[][] {
            {0, 0, 99, 0}, {10, 0, 90, 0}, {20, 0, 80, 0}, {30, 0, 40, 0}, {40, 0, 41, 0}});
        Check.equal("by x1 in spite of x2", wide.ways(0), "0 0 0 1 1");
    }

    private static void smallestFirst() {
        CountedFrames alongX = CountedFrames.row(40, 0, 30, 10, 20);
        Check.equal("frames along x", alongX.ways(0), "1 0 1 0 0");
        Check.equal("places along x", alongX.tells(5), "1 0 0 1 2");
        CountedFrames alongY = fiveAt(new int[5], new int[] {40, 0, 30, 10, 20}, -1, -1);
        Check.equal("frames along y", alongY.ways(0), "1 0 1 0 0");
        Check.equal("places along y", alongY.tells(5), "1 0 0 1 2");
        CountedFrames oneApart = CountedFrames.row(14, 13, 12, 11, 10);
        Check.equal("frames one apart", oneApart.ways(0), "1 1 0 0 0");
        Check.equal("places one apart", oneApart.tells(5), "1 0 2 1 0");
    }

    private static void equalsStayInOrder() {
        CountedFrames same = fiveAt(new int[] {7, 7, 7, 7, 7}, new int[] {3, 3, 3, 3, 3}, 9, 9);
        Check.equal("frames of five equals", same.ways(0), "0 0 0 1 1");
        Check.equal("places of five equals", same.tells(5), "0 1 2 0 1");
        CountedFrames lastLeast = CountedFrames.row(5, 5, 5, 5, 4);
        Check.equal("frames, the last is the least", lastLeast.ways(0), "0 0 1 1 0");
        Check.equal("places, the last is the least", lastLeast.tells(5), "1 2 0 1 0");
        CountedFrames firstGreatest = CountedFrames.row(6, 5, 5, 5, 5);
        Check.equal("frames, the first is the greatest", firstGreatest.ways(0), "1 0 0 0 1");
        Check.equal("places, the first is the greatest", firstGreatest.tells(5), "1 0 1 2 0");
        CountedFrames pairs = CountedFrames.row(9, 5, 9, 5, 9);
        Check.equal("frames of two and three", pairs.ways(0), "0 0 1 0 1");
        Check.equal("places of two and three", pairs.tells(5), "2 0 0 1 1");
        // Along y, though their x1 go down.
        CountedFrames down = CountedFrames.of(square(3, 0), square(2, 0), square(1, 0), square(0, 0), square(0, 9));
        Check.equal("frames along y", down.ways(0), "0 0 0 1 1");
        Check.equal("places along y", down.tells(5), "0 1 2 0 1");
    }

    private static void orderIsNotByNumber() {
        CountedFrames frames = CountedFrames.row(40, 0, 30, 10, 20);
        // The second frame holds 2 (at 30) ahead of 0 (at 40); with these it is split along y.
        frames.comeInARow(32, 34);
        frames.come(36, 50, 36, 50);
        Check.equal("frames", frames.ways(0), "1 0 1 0 0 1 2 2");
        Check.equal("places", frames.tells(5), "1 0 0 1 2 2 0 1");
    }

    private static void threeStay() {
        CountedFrames frames = CountedFrames.row(0, 10, 20, 30, 40);
        Check.equal("frames", frames.ways(0), "0 0 0 1 1");
        Check.equal("how many each holds", frames.tells(6), "3 3 3 2 2");
        Check.equal("their places", frames.tells(5), "0 1 2 0 1");
        Check.equal("their hedges", frames.tells(7), "21 21 21 11 11");
    }

    private static void directlyBehind() {
        int[] threeFrames = {0, 10, 20, 40, 50, 60, 80, 90};
        CountedFrames ofThree = CountedFrames.row(threeFrames);
        Check.equal("three frames", ofThree.ways(0), "0 0 0 1 1 1 2 2");
        CountedFrames first = CountedFrames.row(threeFrames);
        first.comeInARow(5, 15);
        Check.equal("behind the first", first.ways(0), "0 0 1 2 2 2 3 3 0 1");
        CountedFrames second = CountedFrames.row(threeFrames);
        second.comeInARow(45, 55);
        Check.equal("behind the second", second.ways(0), "0 0 0 1 1 2 3 3 1 2");
        CountedFrames third = CountedFrames.row(threeFrames);
        third.comeInARow(82, 84, 86);
        Check.equal("behind the third", third.ways(0), "0 0 0 1 1 1 2 3 2 2 3");
    }

    private static void splitOfTheOneThatHoldsAll() {
        CountedFrames frames = CountedFrames.row(0, 10, 20, 30);
        Check.equal("steps ahead of it", frames.count(3), 0);
        frames.come(40, 0, 40, 0);
        Check.equal("steps behind it", frames.count(3), 1);
        Check.equal("both are held by the new one", frames.count(8), 2);
        Check.equal("with a hedge around both", frames.count(5), 41);
        // A split of another one leaves the one that holds all as it is.
        frames.comeInARow(50, 60, 70);
        Check.equal("then one more beside them", frames.counts(), "8 8 4 1 " + (21 + 21 + 11 + 71) + " 71 0 2 3");
    }

    // ---- splitting upwards

    private static void looksUpwards() {
        CountedFrames four = CountedFrames.longRow(10, 5);
        four.comeInARow(50);
        Check.equal("a fourth frame", four.counts(), "11 11 5 1 " + (51 + 33 + 6) + " 51 0 3 4");
        CountedFrames five = CountedFrames.longRow(13, 5);
        Check.equal("ahead of a fifth one", five.count(3) + " " + five.count(7) + " " + five.count(8), "1 3 4");
        five.comeInARow(65);
        Check.equal("behind a fifth one", five.count(3) + " " + five.count(7) + " " + five.count(8), "2 5 2");
        Check.equal("three stay below the first", five.ways(1), "0 0 0 1 1 1 2 2 2 0 0 0 1 1");
    }

    private static void splitsOnUpwards() {
        CountedFrames frames = CountedFrames.longRow(40, 2);
        Check.equal("ahead of it", frames.count(3) + " " + frames.count(7) + " " + frames.count(8), "2 15 4");
        frames.comeInARow(80);
        Check.equal("three at once", frames.count(3) + " " + frames.count(7) + " " + frames.count(8), "3 18 2");
        Check.equal("the way of the last one", frames.way(40, 0) + " " + frames.way(40, 1) + " " + frames.way(40, 2),
            "1 1 1");
        // In the middle alone: one frame of frames is split, and there is room above it.
        CountedFrames middle = CountedFrames.longRow(22, 4);
        middle.comeInARow(88);
        Check.equal("two at once", middle.count(3) + " " + middle.count(7) + " " + middle.count(8), "2 9 3");
    }

    /**
     * The same one again and again: each comes down to the first frame, so that of the frames of each level the first
     * one alone is ever split, and two more that come to it split it again. No other run goes deeper with 60.
     */
    private static CountedFrames sameAgain(int length) {
        CountedFrames frames = new CountedFrames();
        for (int k = 0; k < length; k++) {
            frames.come(3, 4, 8, 9);
        }
        return frames;
    }

    private static void fourSplitsAtOnce() {
        // 46: the frames of level 1 hold 4 and 21 times 2; of level 2: 4, 9 times 2; of level 3: 4, 3 times 2; then 4.
        CountedFrames frames = sameAgain(46);
        Check.equal("with 46", frames.counts(), equalHedges(46, 22 + 10 + 4 + 1, 3, 15 + 9 + 6, 21 + 9 + 3, 4));
        Check.equal("splits of a 47th", frames.splits(3, 4, 8, 9), 4);
        frames.come(3, 4, 8, 9);
        Check.equal("with 47", frames.counts(),
            equalHedges(47, 23 + 11 + 5 + 2 + 1, 4, 13 + 7 + 4 + 1, 22 + 10 + 4 + 1, 2));
        // 60: the frames of level 1 hold 4 and 28 times 2; of level 2: 3, 13 times 2; of level 3: 4, 5 times 2;
        // of level 4: 4 and 2; the one that holds all holds these 2.
        CountedFrames full = sameAgain(60);
        Check.equal("with 60", full.counts(),
            equalHedges(60, 29 + 14 + 6 + 2 + 1, 4, 16 + 11 + 7 + 1, 28 + 13 + 5 + 1, 2));
        Check.equal("all frames are looked at", full.looks(8, 9, 8, 9), 52);
        for (int step = 0; step < 4; step++) {
            Check.equal("the way to the first frame", full.way(0, step) + " " + full.way(59, step), "0 0");
            Check.equal("the way to the one split off first", full.way(3, step) + " " + full.way(4, step), "1 1");
        }
        Check.equal("behind the last step", full.way(0, 4) + " " + full.way(3, 4), "-1 -1");
        // By one more row in each frame on its way.
        Check.equal("growth of five hedges", full.grows(3, 10, 8, 10), 5 * 6);
    }

    /** What count() answers if each hedge has the 36 squares of the same one, and none was given up. */
    private static String equalHedges(int came, int frames, int steps, int pairs, int splits, int ofAll) {
        return came + " " + came + " " + frames + " " + steps + " " + frames * 36 + " 36 " + pairs + " " + splits
            + " " + ofAll;
    }

    /** Five frames: at y = 0 those from x = 20, 40, 60 and 80 on, as the last one that from x = 0 on at this y. */
    private static CountedFrames fiveHedges(int y) {
        CountedFrames frames = CountedFrames.of(square(20, 0), square(21, 0), square(22, 0), square(0, y), square(1, y));
        frames.comeInARow(40, 41, 60, 61, 42, 80);
        frames.come(81, 0, 99, 0);
        Check.equal("four frames ahead of it", frames.ways(0), "0 0 0 3 3 1 1 2 2 1 2 2");
        frames.comeInARow(62);
        return frames;
    }

    private static void axisOfHedges() {
        // Lower edges along x: 0, 20, 40, 60, 80. Along y: 0 and the y of the last one.
        for (int y : new int[] {79, 80}) {
            CountedFrames alongX = fiveHedges(y);
            Check.equal("80 and " + y, alongX.ways(0), "0 0 0 0 0 0 0 1 1 0 1 1 1");
            Check.equal("80 and " + y + ", below", alongX.ways(1), "1 1 1 0 0 2 2 0 0 2 1 1 0");
        }
        // The upper edges along x, 1 to 99, are farther apart than 81.
        CountedFrames alongY = fiveHedges(81);
        Check.equal("80 and 81", alongY.ways(0), "0 0 0 1 1 0 0 0 0 0 1 1 0");
        Check.equal("80 and 81, below", alongY.ways(1), "0 0 0 1 1 1 1 2 2 1 0 0 2");
    }

    private static void equalHedgesStayInOrder() {
        // Along y the hedges start at 0, 0, 0, 0 and 81: the four equals keep the order in which they were held.
        CountedFrames frames = fiveHedges(81);
        Check.equal("frames of equals", frames.way(0, 1) + " " + frames.way(5, 1) + " " + frames.way(7, 1)
            + " " + frames.way(10, 1), "0 1 2 0");
        // The same one 20 times: all hedges are equal, so that each comes to the first frame, {0 1 2}, and the two
        // that each split takes out of it stand directly behind it: the frames are not held by their numbers.
        CountedFrames same = new CountedFrames();
        for (int k = 0; k < 20; k++) {
            same.come(3, 4, 8, 9);
        }
        // {0 1 2 19} {17 18} {15 16}, then {13 14} {11 12}, then {9 10} {7 8}, then {5 6} {3 4}.
        Check.equal("the same, step 0", same.ways(0), "0 0 0 3 3 3 3 2 2 2 2 1 1 1 1 0 0 0 0 0");
        Check.equal("the same, step 1", same.ways(1), "0 0 0 1 1 0 0 1 1 0 0 1 1 0 0 2 2 1 1 0");
        Check.equal("the same, places", same.tells(5), "0 1 2 0 1 0 1 0 1 0 1 0 1 0 1 0 1 0 1 3");
    }

    // ---- going

    private static void heldNoMore() {
        CountedFrames frames = CountedFrames.of(square(5, 5), square(5, 5), square(9, 9));
        frames.go(1);
        Check.equal("its place", frames.tells(5), "0 -1 1");
        Check.equal("those of its frame", frames.tells(6), "2 -1 2");
        Check.equal("at its squares", frames.overlaps(5, 5, 5, 5), 1);
        frames.go(0);
        Check.equal("at its squares, both gone", frames.overlaps(5, 5, 5, 5), 0);
        Check.equal("the nearest one", frames.nearest(5, 5), 2);
        Check.equal("the mean of one", frames.count(0), 1);
    }

    private static void thoseBehindMoveUp() {
        String[] due = {"-1 0 1 2", "0 -1 1 2", "0 1 -1 2", "0 1 2 -1"};
        for (int gone = 0; gone < 4; gone++) {
            CountedFrames frames = CountedFrames.row(0, 10, 20, 30);
            frames.go(gone);
            Check.equal("without " + gone, frames.tells(5), due[gone]);
        }
        String[] dueFrames = {"-1 -1 -1 0 0 0 1 1", "0 0 0 -1 -1 -1 1 1", "0 0 0 1 1 1 -1 -1"};
        for (int gone = 0; gone < 3; gone++) {
            CountedFrames frames = CountedFrames.row(0, 10, 20, 40, 50, 60, 80, 90);
            frames.goAll(3 * gone, Math.min(7, 3 * gone + 2));
            Check.equal("without frame " + gone, frames.ways(0), dueFrames[gone]);
        }
    }

    private static void emptyFrameGoes() {
        CountedFrames frames = CountedFrames.row(0, 10, 20, 40, 50, 60, 80, 90);
        frames.go(6);
        Check.equal("one is left in it", frames.counts(), "7 8 4 1 " + (91 + 21 + 21 + 1) + " 91 0 2 3");
        frames.go(7);
        Check.equal("none is left in it", frames.counts(), "6 8 3 1 " + (61 + 21 + 21) + " 61 0 2 2");
    }

    private static void oneThatHoldsAllStays() {
        CountedFrames frames = CountedFrames.row(4);
        frames.go(0);
        Check.equal("it holds nothing", frames.counts(), "0 1 1 0 0 0 0 0 0");
        frames.come(5, 0, 6, 0);
        Check.equal("it holds one again", frames.counts(), "1 2 1 0 2 2 0 0 1");
        CountedFrames nested = CountedFrames.row(0, 10, 20, 30, 40);
        nested.goAll(0, 4);
        Check.equal("after nested ones", nested.counts(), "0 5 1 0 0 0 0 1 0");
    }

    private static void emptyFramesGoUpwards() {
        // Frames of frames: 0..32, 36..68 and 72..88 along x; the middle one loses its last allotment.
        CountedFrames frames = CountedFrames.longRow(23, 4);
        frames.goAll(9, 16);
        Check.equal("one is left in it", frames.counts(),
            "15 23 10 2 " + (89 + 33 + 1 + 17 + 9 * 3 + 1 + 9 + 5) + " 89 0 9 3");
        frames.go(17);
        Check.equal("none is left in it", frames.counts(),
            "14 23 8 2 " + (89 + 33 + 17 + 9 * 3 + 9 + 5) + " 89 0 9 2");
        Check.equal("the one behind moved up", frames.way(18, 0) + " " + frames.way(18, 1), "1 0");
    }

    private static void justOneFrame() {
        CountedFrames frames = CountedFrames.row(0, 10, 20, 30, 40);
        frames.go(3);
        Check.equal("it holds two", frames.counts(), "4 5 3 1 63 41 0 1 2");
        frames.go(4);
        Check.equal("it held just one", frames.counts(), "3 5 1 0 21 21 0 1 3");
        Check.equal("no step is left", frames.ways(0), "-1 -1 -1 -1 -1");
        CountedFrames second = CountedFrames.row(0, 10, 20, 30, 40);
        second.goAll(0, 2);
        Check.equal("the second is left", second.counts(), "2 5 1 0 11 11 0 1 2");
    }

    private static void asLongAsItHoldsOne() {
        // 0..10, 15..25, 30..40 and 45..55, 60..65 along x.
        CountedFrames frames = CountedFrames.longRow(14, 5);
        frames.goAll(9, 11);
        frames.goAll(0, 5);
        Check.equal("two frames that hold one each", frames.counts(), "5 14 5 2 70 36 0 5 2");
        frames.go(12);
        Check.equal("still two", frames.counts(), "4 14 5 2 " + (36 + 11 + 11 + 1 + 1) + " 36 0 5 2");
        frames.go(13);
        Check.equal("two steps go at once", frames.counts(), "3 14 1 0 11 11 0 5 3");
        // One step alone goes, if the one that is left holds two.
        CountedFrames half = CountedFrames.longRow(14, 5);
        half.goAll(0, 8);
        Check.equal("one step goes", half.counts(), "5 14 3 1 " + (21 + 11 + 6) + " 21 0 5 2");
    }

    private static void fourStepsGoAtOnce() {
        CountedFrames frames = sameAgain(60);
        frames.goAll(0, 2);
        frames.goAll(5, 58);
        // The first frame holds 59 alone, the last one 3 and 4, and each way to them goes by frames that hold one.
        Check.equal("two ways are left", frames.counts(), "3 60 9 4 " + 9 * 36 + " 36 1 47 2");
        Check.equal("the last step of both", frames.way(59, 3) + " " + frames.way(3, 3), "0 0");
        frames.go(59);
        Check.equal("one way is left", frames.counts(), "2 60 1 0 36 36 0 47 2");
        Check.equal("the first step of it", frames.way(3, 0), -1);
        frames.goAll(3, 4);
        Check.equal("none is left", frames.counts(), "0 60 1 0 0 0 0 47 0");
    }

    private static void justOneAllotment() {
        CountedFrames frames = CountedFrames.row(0, 10);
        frames.go(0);
        Check.equal("one allotment", frames.counts(), "1 2 1 0 1 1 0 0 1");
        CountedFrames nested = CountedFrames.longRow(14, 5);
        nested.goAll(0, 12);
        Check.equal("one allotment of many", nested.counts(), "1 14 1 0 1 1 0 5 1");
        Check.equal("its place", nested.told(13, 5), 0);
    }

    // ---- throwing

    private static void throwingChangesNothing() {
        CountedFrames[] states = {new CountedFrames(), CountedFrames.row(5), CountedFrames.longRow(14, 5)};
        for (CountedFrames frames : states) {
            Check.refuses("come", frames, ARGUMENT, () -> frames.come(0, 0, 100, 0));
            Check.refuses("go", frames, INDEX, () -> frames.go(14));
            Check.refuses("told", frames, INDEX, () -> frames.told(14, 8));
            Check.refuses("way", frames, INDEX, () -> frames.way(14, 0));
            Check.refuses("overlaps", frames, ARGUMENT, () -> frames.overlaps(1, 0, 0, 0));
            Check.refuses("looks", frames, ARGUMENT, () -> frames.looks(0, 1, 0, 0));
            Check.refuses("nearest", frames, ARGUMENT, () -> frames.nearest(0, 100));
            Check.refuses("count", frames, INDEX, () -> frames.count(9));
            Check.refuses("grows", frames, ARGUMENT, () -> frames.grows(0, 0, 0, 100));
            Check.refuses("splits", frames, ARGUMENT, () -> frames.splits(-1, 0, 0, 0));
        }
        CountedFrames gone = CountedFrames.longRow(14, 5);
        gone.go(9);
        Check.refuses("go again", gone, STATE, () -> gone.go(9));
        // What comes next shows that no number was used and no frame was touched.
        Check.equal("the next come", gone.come(45, 0, 45, 0), 14);
        Check.equal("its place", gone.told(14, 5), 2);
    }

    private static void firstNamedIsThrown() {
        CountedFrames frames = CountedFrames.longRow(60, 1);
        int[][] wrong = {{-1, 0, 0, 0}, {0, -1, 0, 0}, {0, 0, 100, 0}, {0, 0, 0, 100}, {1, 0, 0, 0}, {0, 1, 0, 0}};
        for (int[] r : wrong) {
            Check.refuses("a wrong come after 60", frames, ARGUMENT, () -> frames.come(r[0], r[1], r[2], r[3]));
        }
        Check.refuses("a right come after 60", frames, STATE, () -> frames.come(0, 0, 0, 0));
    }
}
