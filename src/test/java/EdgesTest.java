import java.math.BigInteger;

/** One test for each sentence of "Promise 1" to "Promise 13" that names a boundary; the answers are worked out by hand. */
public final class EdgesTest {
    private static final Class<?> ARGUMENT = IllegalArgumentException.class;
    private static final Class<?> STATE = IllegalStateException.class;
    private static final Class<?> INDEX = IndexOutOfBoundsException.class;
    private static final int MIN = Integer.MIN_VALUE;
    private static final int MAX = Integer.MAX_VALUE;

    private interface RectangleCall {
        int of(CountedFrames frames, int x1, int y1, int x2, int y2);
    }

    private EdgesTest() {
    }

    public static void main(String[] arguments) {
        comingAndGoing();
        tellingOfOne();
        asking();
        counting();
        whatWouldBe();
        meanAndDigest();
        Check.end("EdgesTest");
    }

    private static void comingAndGoing() {
        Check.sentence("1: Creates one frame that holds nothing", EdgesTest::newObject);
        rectangleSentences("2 come", CountedFrames::come);
        Check.sentence("2: Returns its number", EdgesTest::comeReturnsItsNumber);
        Check.sentence("2: if there were 60", EdgesTest::comeAfter60);
        Check.sentence("3: Returns its area", EdgesTest::goReturnsTheArea);
        Check.sentence("3: if there is no such allotment", EdgesTest::goOfNoSuchAllotment);
        Check.sentence("3: if it was given up", EdgesTest::goOfOneGivenUp);
    }

    private static void tellingOfOne() {
        Check.sentence("4: 0 x1, 1 y1, 2 x2, 3 y2, 4 its area", EdgesTest::toldOfItself);
        Check.sentence("4: 5 its place in its frame, -1 if it was given up", EdgesTest::toldItsPlace);
        Check.sentence("4: 6 allotments of its frame, -1 likewise", EdgesTest::toldThoseOfItsFrame);
        Check.sentence("4: 7 the area of the hedge of its frame, -1 likewise", EdgesTest::toldItsHedge);
        Check.sentence("4: 8 other ones that it overlaps", EdgesTest::toldOthers);
        Check.sentence("4: of those that are held; also if it was given up itself", EdgesTest::toldOthersOfOneGivenUp);
        Check.sentence("4: if there is no such allotment", EdgesTest::toldOfNoSuchAllotment);
        Check.sentence("4: or what is not 0 to 8", EdgesTest::toldNoSuchThing);
        Check.sentence("5: a step, from 0", EdgesTest::wayFromStep0);
        Check.sentence("5: the place, from 0, among those held beside it", EdgesTest::wayTellsPlaces);
        Check.sentence("5: -1 behind the last step", EdgesTest::wayBehindTheLastStep);
        Check.sentence("5: or if it was given up", EdgesTest::wayOfOneGivenUp);
        Check.sentence("5: if there is no such allotment, or step is less than 0", EdgesTest::wayRefuses);
    }

    private static void asking() {
        rectangleSentences("6 overlaps", CountedFrames::overlaps);
        Check.sentence("6: how many allotments this rectangle overlaps", EdgesTest::overlapsOfThoseHeld);
        rectangleSentences("7 looks", CountedFrames::looks);
        Check.sentence("7: the one that holds all", EdgesTest::looksAtTheOneThatHoldsAll);
        Check.sentence("7: those held whose hedges overlap the rectangle", EdgesTest::looksAtHedges);
        Check.sentence("7: of each one that is looked at", EdgesTest::looksBelowThoseLookedAt);
        Check.sentence("8: both squared and added, are the least", EdgesTest::nearestBySquares);
        Check.sentence("8: for whose nearest square", EdgesTest::nearestSquareOfIt);
        Check.sentence("8: of several the one with the smallest number", EdgesTest::nearestOfSeveral);
        Check.sentence("8: -1 if none is held", EdgesTest::nearestOfNone);
        Check.sentence("8: if x or y is not 0 to 99", EdgesTest::nearestRefuses);
    }

    private static void counting() {
        Check.sentence("9: 0 allotments that are held, 1 those that came in all", EdgesTest::countsAllotments);
        Check.sentence("9: 2 frames", EdgesTest::countsFrames);
        Check.sentence("9: 3 how many steps it is down to a frame with allotments", EdgesTest::countsSteps);
        Check.sentence("9: 4 areas of the hedges of all frames, added", EdgesTest::countsAreas);
        Check.sentence("9: 5 the area of the hedge of the one that holds all", EdgesTest::countsWholeArea);
        Check.sentence("9: 6 pairs of frames whose hedges overlap", EdgesTest::countsPairs);
        Check.sentence("9: 6 pairs, held beside each other, all of them", EdgesTest::countsAllPairs);
        Check.sentence("9: 6 pairs, held beside each other alone", EdgesTest::countsNoCousins);
        Check.sentence("9: 7 splits in all", EdgesTest::countsSplits);
        Check.sentence("9: 8 how many the one that holds all holds", EdgesTest::countsThoseOfTheTop);
        Check.sentence("9: if what is not 0 to 8", EdgesTest::countRefuses);
    }

    private static void whatWouldBe() {
        rectangleSentences("10 grows", CountedFrames::grows);
        Check.sentence("10: all hedges of the frames on its way, added", EdgesTest::growsOnItsWay);
        Check.sentence("10: one of a frame that holds nothing by all of its squares", EdgesTest::growsOfNothing);
        Check.sentence("10: by no square, if all are there", EdgesTest::growsByNothing);
        Check.sentence("10: ahead of any splitting", EdgesTest::growsAheadOfSplitting);
        Check.sentence("10: (nothing is changed)", EdgesTest::growsChangesNothing);
        rectangleSentences("11 splits", CountedFrames::splits);
        Check.sentence("11: how many frames would be split", EdgesTest::splitsOfFullFrames);
        Check.sentence("11: if such an allotment came now", EdgesTest::splitsForAllOfIt);
        Check.sentence("11: however many there are", EdgesTest::splitsAfter60);
        Check.sentence("11: nothing is changed", EdgesTest::splitsChangesNothing);
    }

    private static void meanAndDigest() {
        Check.sentence("12: the mean area of all allotments that are held", EdgesTest::meanOfThoseHeld);
        Check.sentence("12: 0 if there are none", EdgesTest::meanOfNone);
        Check.sentence("13: starts with 1303; d becomes d * 31 + x", EdgesTest::digestOfNew);
        Check.sentence("13: wraps around as a 64-bit integer", EdgesTest::digestWraps);
        Check.sentence("13: for each allotment what told() tells", EdgesTest::digestOfAllThatCame);
        Check.sentence("13: each frame ahead of those that it holds, in their order", EdgesTest::digestOfFrames);
        Check.sentence("13: (0 without one)", EdgesTest::digestWithoutHedge);
    }

    // ---- the sentence that come, overlaps, looks, grows and splits share

    private static void rectangleSentences(String name, RectangleCall call) {
        Check.sentence(name + ": if x1 is less than 0", () -> edge(call, new int[] {0, 7, 5, 9}, 0, -1, 1, MIN));
        Check.sentence(name + ": if y1 is less than 0", () -> edge(call, new int[] {7, 0, 9, 5}, 1, -1, 1, MIN));
        Check.sentence(name + ": x2 is greater than 99", () -> edge(call, new int[] {70, 7, 99, 9}, 2, 100, 98, MAX));
        Check.sentence(name + ": y2 is greater than 99", () -> edge(call, new int[] {7, 70, 9, 99}, 3, 100, 98, MAX));
        Check.sentence(name + ": x1 is greater than x2", () -> edge(call, new int[] {50, 7, 50, 9}, 0, 51, 49, MAX));
        Check.sentence(name + ": x2 is less than x1", () -> edge(call, new int[] {50, 7, 50, 9}, 2, 49, 51, MIN));
        Check.sentence(name + ": y1 is greater than y2", () -> edge(call, new int[] {7, 50, 9, 50}, 1, 51, 49, MAX));
        Check.sentence(name + ": y2 is less than y1", () -> edge(call, new int[] {7, 50, 9, 50}, 3, 49, 51, MIN));
        Check.sentence(name + ": or, all at once", () -> wrongAtOnce(call));
    }

    /** The rectangle is taken, also with this edge moved inwards, but not moved outwards, or far outwards. */
    private static void edge(RectangleCall call, int[] right, int edge, int outwards, int inwards, int far) {
        CountedFrames[] states = {new CountedFrames(), CountedFrames.longRow(14, 5)};
        for (CountedFrames frames : states) {
            for (int wrong : new int[] {outwards, far}) {
                int[] r = right.clone();
                r[edge] = wrong;
                Check.refuses("the edge at " + wrong, frames, ARGUMENT, () -> call.of(frames, r[0], r[1], r[2], r[3]));
            }
            int[] r = right.clone();
            r[edge] = inwards;
            Check.isTrue("at the edge", call.of(frames, right[0], right[1], right[2], right[3]) >= 0);
            Check.isTrue("one step inwards", call.of(frames, r[0], r[1], r[2], r[3]) >= 0);
        }
    }

    private static void wrongAtOnce(RectangleCall call) {
        int[][] wrong = {{100, 0, 100, 0}, {0, 100, 0, 100}, {-1, 0, -1, 0}, {0, -1, 0, -1}, {-1, -1, 100, 100},
            {MIN, MIN, MAX, MAX}, {MAX, MAX, MIN, MIN}, {99, 99, 0, 0}, {-2, 0, -1, 0}, {0, 101, 0, 102}};
        CountedFrames frames = CountedFrames.longRow(14, 5);
        for (int[] r : wrong) {
            Check.refuses(r[0] + ", " + r[1] + ", " + r[2] + ", " + r[3], frames, ARGUMENT,
                () -> call.of(frames, r[0], r[1], r[2], r[3]));
        }
        Check.isTrue("the greatest one", call.of(frames, 0, 0, 99, 99) >= 0);
        Check.isTrue("the least one", call.of(frames, 0, 0, 0, 0) >= 0);
        Check.isTrue("the last one", call.of(frames, 99, 99, 99, 99) >= 0);
    }

    private static int[] square(int x, int y) {
        return new int[] {x, y, x, y};
    }

    // ---- 1 to 3

    private static void newObject() {
        CountedFrames frames = new CountedFrames();
        Check.equal("counts", frames.counts(), "0 0 1 0 0 0 0 0 0");
        Check.equal("mean", frames.mean(), 0.0);
        Check.equal("nearest", frames.nearest(0, 0), -1);
        Check.equal("looks", frames.looks(0, 0, 99, 99), 1);
        Check.equal("overlaps", frames.overlaps(0, 0, 99, 99), 0);
        Check.equal("splits", frames.splits(0, 0, 99, 99), 0);
        CountedFrames other = CountedFrames.longRow(14, 5);
        Check.equal("another one", other.count(0), 14);
        Check.equal("counts beside another one", frames.counts(), "0 0 1 0 0 0 0 0 0");
        Check.equal("a new one beside another one", new CountedFrames().counts(), "0 0 1 0 0 0 0 0 0");
    }

    private static void comeReturnsItsNumber() {
        CountedFrames frames = new CountedFrames();
        for (int number = 0; number < 60; number++) {
            Check.equal("come", frames.come(99 - number, 0, 99, number), number);
        }
        Check.equal("x1 of the first", frames.told(0, 0), 99);
        Check.equal("x1 of the last", frames.told(59, 0), 40);
        Check.equal("y2 of the last", frames.told(59, 3), 59);
    }

    private static void comeAfter60() {
        CountedFrames frames = CountedFrames.longRow(59, 1);
        Check.equal("the 60th", frames.come(0, 0, 99, 99), 59);
        Check.refuses("a 61st", frames, STATE, () -> frames.come(0, 0, 99, 99));
        frames.goAll(0, 30);
        Check.refuses("a 61st, if 29 are held", frames, STATE, () -> frames.come(0, 0, 99, 99));
        frames.goAll(31, 59);
        Check.refuses("a 61st, if none is held", frames, STATE, () -> frames.come(0, 0, 0, 0));
        Check.refuses("a wrong one", frames, ARGUMENT, () -> frames.come(0, 0, 0, 100));
    }

    private static void goReturnsTheArea() {
        CountedFrames frames = CountedFrames.of(new int[][] {
            {7, 8, 7, 8}, {0, 0, 99, 99}, {0, 5, 99, 5}, {5, 0, 5, 99}, {3, 5, 9, 6}, {3, 4, 4, 5}});
        Check.equal("the last one", frames.go(5), 4);
        Check.equal("one square", frames.go(0), 1);
        Check.equal("all squares", frames.go(1), 10000);
        Check.equal("a line", frames.go(2), 100);
        Check.equal("a column", frames.go(3), 100);
        Check.equal("7 and 2", frames.go(4), 14);
    }

    private static void goOfNoSuchAllotment() {
        CountedFrames empty = new CountedFrames();
        Check.refuses("go(0), none came", empty, INDEX, () -> empty.go(0));
        CountedFrames frames = CountedFrames.longRow(14, 5);
        for (int number : new int[] {-1, 14, 15, 59, 60, 61, MIN, MAX}) {
            Check.refuses("go(" + number + ")", frames, INDEX, () -> frames.go(number));
        }
        Check.equal("go(13)", frames.go(13), 1);
        Check.equal("go(0)", frames.go(0), 1);
        Check.refuses("go(14), after goings", frames, INDEX, () -> frames.go(14));
        CountedFrames full = CountedFrames.longRow(60, 1);
        Check.refuses("go(60), if 60 came", full, INDEX, () -> full.go(60));
        Check.equal("go(59), if 60 came", full.go(59), 1);
    }

    private static void goOfOneGivenUp() {
        CountedFrames frames = CountedFrames.longRow(14, 5);
        frames.go(0);
        frames.go(13);
        Check.refuses("go(0)", frames, STATE, () -> frames.go(0));
        Check.refuses("go(13)", frames, STATE, () -> frames.go(13));
        Check.equal("go(1)", frames.go(1), 1);
        Check.refuses("go(0), once more", frames, STATE, () -> frames.go(0));
        CountedFrames one = CountedFrames.row(5);
        one.go(0);
        Check.refuses("go of the only one", one, STATE, () -> one.go(0));
        Check.refuses("go behind the only one", one, INDEX, () -> one.go(1));
    }

    // ---- 4

    private static void toldOfItself() {
        CountedFrames frames = CountedFrames.of(new int[][] {{1, 2, 3, 5}, {0, 0, 99, 99}, {99, 0, 99, 0}});
        Check.equal("x1", frames.tells(0), "1 0 99");
        Check.equal("y1", frames.tells(1), "2 0 0");
        Check.equal("x2", frames.tells(2), "3 99 99");
        Check.equal("y2", frames.tells(3), "5 99 0");
        Check.equal("areas", frames.tells(4), "12 10000 1");
        frames.goAll(0, 2);
        Check.equal("x1 after they went", frames.tells(0), "1 0 99");
        Check.equal("y1 after they went", frames.tells(1), "2 0 0");
        Check.equal("x2 after they went", frames.tells(2), "3 99 99");
        Check.equal("y2 after they went", frames.tells(3), "5 99 0");
        Check.equal("areas after they went", frames.tells(4), "12 10000 1");
    }

    private static void toldItsPlace() {
        CountedFrames frames = CountedFrames.row(40, 0, 30, 10, 20);
        Check.equal("after a split", frames.tells(5), "1 0 0 1 2");
        frames.go(1);
        Check.equal("of one given up", frames.tells(5), "1 -1 0 0 1");
        frames.goAll(2, 4);
        Check.equal("of the last one held", frames.tells(5), "0 -1 -1 -1 -1");
        frames.go(0);
        Check.equal("if none is held", frames.tells(5), "-1 -1 -1 -1 -1");
    }

    private static void toldThoseOfItsFrame() {
        CountedFrames frames = CountedFrames.row(40, 0, 30, 10, 20);
        Check.equal("after a split", frames.tells(6), "2 3 2 3 3");
        frames.go(1);
        Check.equal("of one given up", frames.tells(6), "2 -1 2 2 2");
        frames.goAll(2, 4);
        Check.equal("of the last one held", frames.tells(6), "1 -1 -1 -1 -1");
        frames.comeInARow(1, 2, 3);
        Check.equal("of four", frames.tells(6), "4 -1 -1 -1 -1 4 4 4");
    }

    private static void toldItsHedge() {
        CountedFrames frames = CountedFrames.row(40, 0, 30, 10, 20);
        Check.equal("after a split", frames.tells(7), "11 21 11 21 21");
        frames.go(1);
        Check.equal("of one given up", frames.tells(7), "11 -1 11 11 11");
        frames.goAll(2, 4);
        Check.equal("of the last one held", frames.tells(7), "1 -1 -1 -1 -1");
        frames.come(40, 0, 49, 9);
        Check.equal("of two", frames.tells(7), "100 -1 -1 -1 -1 100");
    }

    private static void toldOthers() {
        Check.equal("of one alone", CountedFrames.of(square(5, 5)).told(0, 8), 0);
        // 0 and 1 have the square 9 9 in common, 1 and 2 are one step apart, 3 is the same as 0.
        CountedFrames frames = CountedFrames.of(new int[][] {{0, 0, 9, 9}, {9, 9, 20, 20}, {21, 9, 30, 20}, {0, 0, 9, 9}});
        Check.equal("others", frames.tells(8), "2 2 0 2");
        CountedFrames same = new CountedFrames();
        for (int number = 0; number < 60; number++) {
            same.come(3, 3, 4, 4);
        }
        Check.equal("the first of 60", same.told(0, 8), 59);
        Check.equal("the last of 60", same.told(59, 8), 59);
    }

    private static void toldOthersOfOneGivenUp() {
        CountedFrames frames = CountedFrames.of(new int[][] {{0, 0, 9, 9}, {9, 9, 20, 20}, {5, 5, 9, 9}});
        Check.equal("all held", frames.tells(8), "2 2 2");
        frames.go(0);
        Check.equal("one given up", frames.tells(8), "2 1 1");
        frames.go(2);
        Check.equal("two given up", frames.tells(8), "1 0 1");
        frames.go(1);
        Check.equal("all given up", frames.tells(8), "0 0 0");
        frames.come(9, 9, 9, 9);
        Check.equal("one that came later", frames.tells(8), "1 1 1 0");
    }

    private static void toldOfNoSuchAllotment() {
        CountedFrames empty = new CountedFrames();
        Check.refuses("told(0, 0), none came", empty, INDEX, () -> empty.told(0, 0));
        CountedFrames frames = CountedFrames.longRow(5, 5);
        frames.go(4);
        for (int number : new int[] {-1, 5, 6, 59, 60, MIN, MAX}) {
            Check.refuses("told(" + number + ", 0)", frames, INDEX, () -> frames.told(number, 0));
            Check.refuses("told(" + number + ", 8)", frames, INDEX, () -> frames.told(number, 8));
        }
        Check.equal("told(0, 0)", frames.told(0, 0), 0);
        Check.equal("told(4, 0), though it was given up", frames.told(4, 0), 20);
        CountedFrames full = CountedFrames.longRow(60, 1);
        Check.equal("told(59, 0), if 60 came", full.told(59, 0), 59);
        Check.refuses("told(60, 0), if 60 came", full, INDEX, () -> full.told(60, 0));
    }

    private static void toldNoSuchThing() {
        CountedFrames frames = CountedFrames.longRow(5, 5);
        frames.go(4);
        for (int what : new int[] {-1, 9, 10, MIN, MAX}) {
            Check.refuses("told(0, " + what + ")", frames, INDEX, () -> frames.told(0, what));
            Check.refuses("told(4, " + what + ")", frames, INDEX, () -> frames.told(4, what));
            Check.refuses("told(5, " + what + ")", frames, INDEX, () -> frames.told(5, what));
        }
        Check.equal("told(1, 0)", frames.told(1, 0), 5);
        Check.equal("told(1, 1)", frames.told(1, 1), 0);
        Check.equal("told(1, 7)", frames.told(1, 7), 11);
        Check.equal("told(1, 8)", frames.told(1, 8), 0);
    }

    // ---- 5

    private static void wayFromStep0() {
        CountedFrames frames = CountedFrames.longRow(5, 5);
        Check.equal("step 0", frames.ways(0), "0 0 0 1 1");
        Check.equal("step 1", frames.ways(1), "-1 -1 -1 -1 -1");
        Check.refuses("step -1", frames, INDEX, () -> frames.way(0, -1));
        Check.refuses("step MIN", frames, INDEX, () -> frames.way(0, MIN));
    }

    private static void wayTellsPlaces() {
        // Four frames beside each other, the last one full, then two frames of frames.
        CountedFrames frames = CountedFrames.longRow(13, 5);
        Check.equal("four of them", frames.ways(0), "0 0 0 1 1 1 2 2 2 3 3 3 3");
        frames.comeInARow(65);
        Check.equal("two of them", frames.ways(0), "0 0 0 0 0 0 0 0 0 1 1 1 1 1");
        Check.equal("three and two below", frames.ways(1), "0 0 0 1 1 1 2 2 2 0 0 0 1 1");
        frames.goAll(0, 2);
        Check.equal("those behind moved up", frames.ways(1), "-1 -1 -1 0 0 0 1 1 1 0 0 0 1 1");
    }

    private static void wayBehindTheLastStep() {
        Check.equal("of one frame", CountedFrames.row(5).way(0, 0), -1);
        Check.equal("of one frame, far behind", CountedFrames.row(5).way(0, MAX), -1);
        CountedFrames frames = CountedFrames.longRow(14, 5);
        Check.equal("the last step", frames.way(13, 1), 1);
        Check.equal("one behind it", frames.way(13, 2), -1);
        Check.equal("two behind it", frames.way(13, 3), -1);
        Check.equal("MAX - 1", frames.way(13, MAX - 1), -1);
        Check.equal("MAX", frames.way(13, MAX), -1);
        frames.goAll(0, 8);
        Check.equal("the last step, now one less", frames.way(13, 0), 1);
        Check.equal("one behind it", frames.way(13, 1), -1);
        CountedFrames deepest = CountedFrames.longRow(41, 2);
        Check.equal("the third step", deepest.way(40, 2), 1);
        Check.equal("the fourth step", deepest.way(40, 3), -1);
    }

    private static void wayOfOneGivenUp() {
        CountedFrames frames = CountedFrames.longRow(14, 5);
        frames.go(4);
        Check.equal("step 0", frames.way(4, 0), -1);
        Check.equal("step 1", frames.way(4, 1), -1);
        Check.equal("step 2", frames.way(4, 2), -1);
        Check.equal("step MAX", frames.way(4, MAX), -1);
        Check.equal("the one beside it", frames.way(5, 0) + " " + frames.way(5, 1), "0 1");
        Check.refuses("step -1", frames, INDEX, () -> frames.way(4, -1));
    }

    private static void wayRefuses() {
        CountedFrames empty = new CountedFrames();
        Check.refuses("way(0, 0), none came", empty, INDEX, () -> empty.way(0, 0));
        CountedFrames frames = CountedFrames.longRow(14, 5);
        for (int number : new int[] {-1, 14, 15, 60, MIN, MAX}) {
            Check.refuses("way(" + number + ", 0)", frames, INDEX, () -> frames.way(number, 0));
            Check.refuses("way(" + number + ", -1)", frames, INDEX, () -> frames.way(number, -1));
        }
        Check.equal("way(13, 0)", frames.way(13, 0), 1);
        Check.equal("way(0, 0)", frames.way(0, 0), 0);
        Check.refuses("way(13, -1)", frames, INDEX, () -> frames.way(13, -1));
    }

    // ---- 6 to 8

    private static void overlapsOfThoseHeld() {
        CountedFrames frames = CountedFrames.longRow(60, 1);
        Check.equal("all of 60", frames.overlaps(0, 0, 99, 99), 60);
        Check.equal("beside them", frames.overlaps(0, 1, 99, 99), 0);
        Check.equal("behind them", frames.overlaps(60, 0, 99, 99), 0);
        Check.equal("the last one", frames.overlaps(59, 0, 99, 99), 1);
        Check.equal("from 10 to 20 with both", frames.overlaps(10, 0, 20, 0), 11);
        frames.go(20);
        Check.equal("one less", frames.overlaps(10, 0, 20, 0), 10);
        frames.goAll(0, 19);
        frames.goAll(21, 59);
        Check.equal("none is held", frames.overlaps(0, 0, 99, 99), 0);
    }

    private static void looksAtTheOneThatHoldsAll() {
        Check.equal("one that holds nothing", new CountedFrames().looks(0, 0, 0, 0), 1);
        CountedFrames frames = CountedFrames.longRow(5, 5);
        Check.equal("beside its hedge", frames.looks(0, 1, 99, 99), 1);
        Check.equal("far from its hedge", frames.looks(99, 99, 99, 99), 1);
        Check.equal("within its hedge alone", frames.looks(11, 0, 14, 0), 1);
        frames.goAll(0, 4);
        Check.equal("after all went", frames.looks(0, 0, 99, 99), 1);
    }

    private static void looksAtHedges() {
        // The hedges are 10..30 x 10..20 and 50..70 x 10..20.
        CountedFrames frames = CountedFrames.of(new int[][] {
            {10, 10, 10, 20}, {20, 10, 20, 10}, {30, 10, 30, 10}, {50, 10, 50, 20}, {70, 10, 70, 20}});
        Check.equal("both", frames.looks(30, 10, 50, 10), 3);
        Check.equal("at 30", frames.looks(30, 10, 49, 10), 2);
        Check.equal("at 50", frames.looks(31, 10, 50, 10), 2);
        Check.equal("between 30 and 50", frames.looks(31, 10, 49, 10), 1);
        Check.equal("at the least y", frames.looks(0, 0, 99, 10), 3);
        Check.equal("ahead of the least y", frames.looks(0, 0, 99, 9), 1);
        Check.equal("at the greatest y", frames.looks(0, 20, 99, 99), 3);
        Check.equal("behind the greatest y", frames.looks(0, 21, 99, 99), 1);
        Check.equal("at a corner of one", frames.looks(70, 20, 99, 99), 2);
        Check.equal("behind this corner", frames.looks(71, 20, 99, 99), 1);
        // Within a hedge, yet on no allotment.
        Check.equal("on none", frames.looks(60, 15, 60, 15) + " " + frames.overlaps(60, 15, 60, 15), "2 0");
        frames.go(4);
        Check.equal("of a tighter hedge", frames.looks(60, 15, 60, 15), 1);
    }

    private static void looksBelowThoseLookedAt() {
        // 0..10, 15..25, 30..40 in 0..40, and 45..55, 60..65 in 45..65.
        CountedFrames frames = CountedFrames.longRow(14, 5);
        Check.equal("all", frames.looks(0, 0, 65, 0), 8);
        Check.equal("between those below", frames.looks(41, 0, 44, 0), 1);
        Check.equal("below the first, yet in none", frames.looks(26, 0, 29, 0), 2);
        Check.equal("below the second, yet in none", frames.looks(56, 0, 59, 0), 2);
        Check.equal("below both, in none but the last of the first", frames.looks(40, 0, 44, 0), 3);
        Check.equal("below both", frames.looks(40, 0, 45, 0), 5);
        Check.equal("the last alone", frames.looks(65, 0, 99, 99), 3);
        frames.goAll(9, 11);
        Check.equal("all that are left", frames.looks(0, 0, 65, 0), 7);
    }

    private static void nearestBySquares() {
        // From 50 50: 3 and 4 along x and y, squared and added 25; beside it 5 along x alone, a tie; then 4 and 6.
        CountedFrames frames = CountedFrames.of(square(56, 50), square(53, 54), square(50, 45));
        Check.equal("36, 25 and 25", frames.nearest(50, 50), 1);
        Check.equal("of the sides 5 and 7 with 3 and 4", frames.nearest(51, 50), 1);
        // From 51 49: 5 and 1 make 26, 2 and 5 make 29, 1 and 4 make 17.
        Check.equal("26, 29 and 17", frames.nearest(51, 49), 2);
        // From 0 0: 7 along one side make 49, 5 and 5 make 50, though 10 in sum; 6 and 3 make 45.
        Check.equal("49 and 50", CountedFrames.of(square(5, 5), square(7, 0)).nearest(0, 0), 1);
        Check.equal("45 and 49", CountedFrames.of(square(7, 0), square(3, 6)).nearest(0, 0), 1);
        Check.equal("the greater side less, all more", CountedFrames.of(square(6, 6), square(0, 8)).nearest(0, 0), 1);
        Check.equal("across all", CountedFrames.of(square(99, 99)).nearest(0, 0), 0);
        // Straight above it, or one step aside of that; straight beside it, or one step above that.
        Check.equal("0 and 5, 1 and 5", CountedFrames.of(square(51, 55), square(50, 55)).nearest(50, 50), 1);
        Check.equal("5 and 0, 5 and 1", CountedFrames.of(square(55, 51), square(55, 50)).nearest(50, 50), 1);
        Check.equal("0 and 0, 1 and 0", CountedFrames.of(square(51, 50), square(50, 50)).nearest(50, 50), 1);
        Check.equal("0 and 0, 0 and 1", CountedFrames.of(square(50, 51), square(50, 50)).nearest(50, 50), 1);
        // The same with a nearest square in the middle of many.
        Check.equal("0 and 5 of a line", CountedFrames.of(square(51, 55), new int[] {47, 55, 53, 55}).nearest(50, 50), 1);
        Check.equal("5 and 0 of a column", CountedFrames.of(square(55, 51), new int[] {55, 47, 55, 53}).nearest(50, 50), 1);
        Check.equal("within many", CountedFrames.of(square(51, 50), new int[] {47, 47, 53, 53}).nearest(50, 50), 1);
        // One step: 99 along both sides, or 98 along one of them.
        CountedFrames far = CountedFrames.of(square(99, 99), square(98, 99));
        Check.equal("one step less far", far.nearest(0, 0), 1);
    }

    private static void nearestSquareOfIt() {
        // 0: 10..20 x 10..20; 1: one square at 30 30.
        CountedFrames frames = CountedFrames.of(new int[] {10, 10, 20, 20}, square(30, 30));
        Check.equal("within", frames.nearest(15, 15), 0);
        Check.equal("at the edge", frames.nearest(20, 20), 0);
        Check.equal("half way", frames.nearest(25, 25), 0);
        Check.equal("nearer to the second", frames.nearest(26, 25), 1);
        // Beside it along x, within its rows, and along y, within its columns.
        CountedFrames sides = CountedFrames.of(new int[] {10, 10, 20, 20}, new int[] {26, 0, 30, 40});
        Check.equal("3 and 3 along x", sides.nearest(23, 15), 0);
        Check.equal("4 and 2 along x", sides.nearest(24, 15), 1);
        CountedFrames upper = CountedFrames.of(new int[] {10, 10, 20, 20}, new int[] {0, 26, 40, 30});
        Check.equal("3 and 3 along y", upper.nearest(15, 23), 0);
        Check.equal("4 and 2 along y", upper.nearest(15, 24), 1);
        CountedFrames lower = CountedFrames.of(new int[] {10, 10, 20, 20}, new int[] {0, 0, 40, 4});
        Check.equal("3 and 3 down along y", lower.nearest(15, 7), 0);
        Check.equal("4 and 2 down along y", lower.nearest(15, 6), 1);
        CountedFrames left = CountedFrames.of(new int[] {10, 10, 20, 20}, new int[] {0, 0, 4, 40});
        Check.equal("3 and 3 down along x", left.nearest(7, 15), 0);
        Check.equal("4 and 2 down along x", left.nearest(6, 15), 1);
    }

    private static void nearestOfSeveral() {
        CountedFrames frames = CountedFrames.row(60, 0, 1, 61, 2);
        // The one with number 0 is held in the second frame, number 4 in the first one.
        Check.equal("29 and 29", frames.nearest(31, 0), 0);
        Check.equal("30 and 28", frames.nearest(30, 0), 4);
        Check.equal("28 and 30", frames.nearest(32, 0), 0);
        frames.go(0);
        Check.equal("29 and 30, the other was given up", frames.nearest(31, 0), 4);
        CountedFrames same = CountedFrames.of(square(3, 3), square(3, 3), square(3, 3));
        Check.equal("of the same", same.nearest(3, 3), 0);
        same.go(0);
        Check.equal("of the same that are left", same.nearest(3, 3), 1);
    }

    private static void nearestOfNone() {
        CountedFrames frames = new CountedFrames();
        Check.equal("none came", frames.nearest(0, 0), -1);
        frames.come(0, 0, 0, 0);
        Check.equal("one is held, number 0", frames.nearest(99, 99), 0);
        frames.go(0);
        Check.equal("none is held", frames.nearest(0, 0), -1);
        CountedFrames nested = CountedFrames.longRow(14, 5);
        nested.goAll(0, 12);
        Check.equal("the last of 14", nested.nearest(0, 99), 13);
        nested.go(13);
        Check.equal("none of 14", nested.nearest(0, 99), -1);
    }

    private static void nearestRefuses() {
        for (CountedFrames frames : new CountedFrames[] {new CountedFrames(), CountedFrames.row(50)}) {
            for (int wrong : new int[] {-1, 100, MIN, MAX}) {
                Check.refuses("x " + wrong, frames, ARGUMENT, () -> frames.nearest(wrong, 50));
                Check.refuses("y " + wrong, frames, ARGUMENT, () -> frames.nearest(50, wrong));
                Check.refuses("both " + wrong, frames, ARGUMENT, () -> frames.nearest(wrong, wrong));
            }
            int due = frames.count(0) - 1;
            for (int right : new int[] {0, 1, 98, 99}) {
                Check.equal("x " + right, frames.nearest(right, 50), due);
                Check.equal("y " + right, frames.nearest(50, right), due);
                Check.equal("both " + right, frames.nearest(right, right), due);
            }
        }
    }

    // ---- 9

    private static void countsAllotments() {
        CountedFrames frames = new CountedFrames();
        Check.equal("none", frames.count(0) + " " + frames.count(1), "0 0");
        frames.comeInARow(1, 2, 3);
        Check.equal("three", frames.count(0) + " " + frames.count(1), "3 3");
        frames.go(1);
        Check.equal("one went", frames.count(0) + " " + frames.count(1), "2 3");
        frames.go(0);
        frames.go(2);
        Check.equal("all went", frames.count(0) + " " + frames.count(1), "0 3");
        CountedFrames full = CountedFrames.longRow(60, 1);
        Check.equal("60", full.count(0) + " " + full.count(1), "60 60");
    }

    private static void countsFrames() {
        int[][] due = {{0, 1}, {1, 1}, {4, 1}, {5, 3}, {7, 3}, {8, 4}, {10, 4}, {11, 5}, {13, 5}, {14, 8}, {22, 10}, {23, 12}};
        for (int[] pair : due) {
            Check.equal("of " + pair[0], CountedFrames.longRow(pair[0], 4).count(2), pair[1]);
        }
    }

    private static void countsSteps() {
        int[][] due = {{0, 0}, {1, 0}, {4, 0}, {5, 1}, {13, 1}, {14, 2}, {40, 2}, {41, 3}};
        for (int[] pair : due) {
            Check.equal("of " + pair[0], CountedFrames.longRow(pair[0], 2).count(3), pair[1]);
        }
        CountedFrames frames = CountedFrames.longRow(5, 2);
        frames.goAll(0, 4);
        Check.equal("after all of five went", frames.count(3), 0);
    }

    private static void countsAreas() {
        Check.equal("of none", new CountedFrames().count(4), 0);
        Check.equal("of one frame", CountedFrames.of(new int[] {2, 3, 5, 9}).count(4), 28);
        CountedFrames frames = CountedFrames.row(0, 10, 20, 30, 40);
        Check.equal("of three frames", frames.count(4), 41 + 21 + 11);
        frames.go(4);
        Check.equal("of three tighter frames", frames.count(4), 31 + 21 + 1);
        CountedFrames whole = new CountedFrames();
        for (int number = 0; number < 60; number++) {
            whole.come(0, 0, 99, 99);
        }
        Check.equal("of the greatest ones", whole.count(4), whole.count(2) * 10000);
    }

    private static void countsWholeArea() {
        CountedFrames frames = new CountedFrames();
        Check.equal("of none", frames.count(5), 0);
        frames.come(50, 50, 50, 50);
        Check.equal("of one square", frames.count(5), 1);
        frames.come(99, 50, 99, 50);
        Check.equal("of a line", frames.count(5), 50);
        frames.come(50, 99, 50, 99);
        Check.equal("of a corner", frames.count(5), 2500);
        frames.come(0, 0, 0, 0);
        Check.equal("of all", frames.count(5), 10000);
        frames.come(51, 51, 51, 51);
        Check.equal("of all, after a split", frames.count(5), 10000);
        frames.go(3);
        Check.equal("without the corner", frames.count(5), 2500);
        frames.goAll(0, 2);
        frames.go(4);
        Check.equal("after all went", frames.count(5), 0);
    }

    private static void countsPairs() {
        // By x1 these are {0 1 2} and {3 4}: the first hedge ends at the right edge of 2, the second one starts at 30.
        for (int right : new int[] {28, 29, 30, 31}) {
            CountedFrames frames = CountedFrames.of(new int[][] {
                {0, 0, 5, 9}, {10, 0, 15, 9}, {20, 0, right, 9}, {30, 0, 35, 9}, {40, 0, 50, 9}});
            Check.equal("up to " + right, frames.count(6), right < 30 ? 0 : 1);
        }
        for (int top : new int[] {28, 29, 30, 31}) {
            CountedFrames frames = CountedFrames.of(new int[][] {
                {0, 0, 9, 5}, {0, 10, 9, 15}, {0, 20, 9, top}, {0, 30, 9, 35}, {0, 40, 9, 50}});
            Check.equal("up to row " + top, frames.count(6), top < 30 ? 0 : 1);
        }
        // One corner in common; then the same columns, yet not the same rows.
        CountedFrames corner = CountedFrames.of(new int[][] {
            {0, 0, 5, 5}, {10, 5, 15, 9}, {20, 5, 30, 9}, {30, 9, 35, 20}, {40, 9, 50, 20}});
        Check.equal("a corner", corner.count(6), 1);
        CountedFrames rows = CountedFrames.of(new int[][] {
            {0, 0, 5, 5}, {10, 5, 15, 9}, {20, 5, 30, 9}, {30, 10, 35, 20}, {40, 10, 50, 20}});
        Check.equal("no corner", rows.count(6), 0);
        Check.equal("allotments are no frames", CountedFrames.of(square(5, 5), square(5, 5)).count(6), 0);
    }

    private static void countsAllPairs() {
        // 55 and 58 come to 0..62, which then is split: 0..62, 55..58 and 40..50. The first one has squares of both
        // others, though the last one is not next to it.
        CountedFrames frames = CountedFrames.of(new int[][] {{0, 0, 0, 0}, {10, 0, 10, 0}, {20, 0, 62, 0}});
        frames.comeInARow(40, 50, 55, 58);
        Check.equal("not next to each other", frames.ways(0) + " with " + frames.count(6), "0 0 0 2 2 1 1 with 2");
        CountedFrames three = new CountedFrames();
        for (int x = 0; x < 80; x += 10) {
            three.come(x, 0, 99, 0);
        }
        Check.equal("three frames", three.count(8), 3);
        Check.equal("each with each", three.count(6), 3);
        CountedFrames four = new CountedFrames();
        for (int k = 0; k < 11; k++) {
            four.come(2, 3, 4, 5);
            if (k == 8) {
                Check.equal("four frames", four.count(8), 4);
                Check.equal("each of four with each", four.count(6), 6);
            }
        }
        // {3 frames} and {2 frames}, both pairs and the pair of both.
        Check.equal("frames of frames", four.count(8) + " with " + four.count(6), "2 with 5");
    }

    private static void countsNoCousins() {
        // Frames of frames: 0..80 with 60..80 as its last one, and 90..98 with 90..96 as its first one.
        int[] xs = {0, 10, 20, 30, 40, 50, 60, 70, 80, 90, 95, 96, 97, 98};
        Check.equal("none", CountedFrames.row(xs).count(6), 0);
        CountedFrames apart = CountedFrames.row(xs);
        apart.come(79, 0, 89, 0);
        Check.equal("its way", apart.way(14, 0) + " " + apart.way(14, 1), "0 2");
        Check.equal("up to 89", apart.count(6), 0);
        // Now 60..90 and 90..96 have 90 in common, yet are held by two; only these two, 0..90 and 90..98, count.
        CountedFrames cousins = CountedFrames.row(xs);
        cousins.come(79, 0, 90, 0);
        Check.equal("its way", cousins.way(14, 0) + " " + cousins.way(14, 1), "0 2");
        Check.equal("up to 90", cousins.count(6), 1);
    }

    private static void countsSplits() {
        int[][] due = {{0, 0}, {4, 0}, {5, 1}, {7, 1}, {8, 2}, {13, 3}, {14, 5}, {22, 7}, {23, 9}, {40, 15}, {41, 18}};
        for (int[] pair : due) {
            Check.equal("of " + pair[0], CountedFrames.longRow(pair[0], 2).count(7), pair[1]);
        }
        CountedFrames frames = CountedFrames.longRow(5, 2);
        frames.goAll(0, 4);
        Check.equal("after all went", frames.count(7), 1);
        frames.comeInARow(0, 2, 4, 6, 8);
        Check.equal("another one", frames.count(7), 2);
    }

    private static void countsThoseOfTheTop() {
        int[][] due = {{0, 0}, {1, 1}, {4, 4}, {5, 2}, {7, 2}, {8, 3}, {10, 3}, {11, 4}, {13, 4}, {14, 2}, {22, 2}, {23, 3}};
        for (int[] pair : due) {
            Check.equal("of " + pair[0], CountedFrames.longRow(pair[0], 4).count(8), pair[1]);
        }
        CountedFrames frames = CountedFrames.longRow(5, 2);
        frames.goAll(3, 4);
        Check.equal("of the first frame, which is left", frames.count(8), 3);
    }

    private static void countRefuses() {
        for (CountedFrames frames : new CountedFrames[] {new CountedFrames(), CountedFrames.longRow(14, 5)}) {
            for (int what : new int[] {-1, 9, 10, MIN, MAX}) {
                Check.refuses("count(" + what + ")", frames, INDEX, () -> frames.count(what));
            }
            Check.equal("count(0)", frames.count(0), frames.count(1));
            Check.isTrue("count(8)", frames.count(8) >= 0);
        }
    }

    // ---- 10 and 11

    private static void growsOnItsWay() {
        CountedFrames one = CountedFrames.row(10, 20);
        Check.equal("one frame alone", one.grows(25, 0, 25, 0), 5);
        CountedFrames two = CountedFrames.row(0, 10, 20, 30, 40);
        Check.equal("the top and the one below", two.grows(45, 0, 45, 0), 5 + 5);
        Check.equal("below alone", two.grows(24, 0, 24, 0), 4);
        Check.equal("in the first, by as much as in the second, which is smaller", two.grows(25, 0, 25, 0), 5);
        Check.equal("all edges at once", two.grows(0, 0, 40, 1), 82 - 41 + 82 - 21);
        // 0..10, 15..25, 30..40 in 0..40, and 45..55, 60..65 in 45..65.
        CountedFrames three = CountedFrames.longRow(14, 5);
        Check.equal("all three", three.grows(67, 0, 67, 0), 2 + 2 + 2);
        Check.equal("the last two", three.grows(42, 0, 42, 0), 2 + 2);
        Check.equal("the last alone", three.grows(58, 0, 58, 0), 2);
        three.go(13);
        Check.equal("of tighter hedges", three.grows(67, 0, 67, 0), 7 + 7 + 7);
        // A second row of squares above 0..59, 27..59, 54..59 and 57..59.
        Check.equal("if there were 60", CountedFrames.longRow(60, 1).grows(59, 1, 59, 1), 60 + 33 + 6 + 3);
    }

    private static void growsOfNothing() {
        CountedFrames frames = new CountedFrames();
        Check.equal("one square", frames.grows(0, 0, 0, 0), 1);
        Check.equal("one square elsewhere", frames.grows(50, 60, 50, 60), 1);
        Check.equal("the last square", frames.grows(99, 99, 99, 99), 1);
        Check.equal("all squares", frames.grows(0, 0, 99, 99), 10000);
        Check.equal("3 and 5", frames.grows(10, 20, 12, 24), 15);
        frames.come(10, 20, 12, 24);
        Check.equal("of one that holds one", frames.grows(13, 20, 13, 24), 5);
        frames.go(0);
        Check.equal("after it went", frames.grows(13, 20, 13, 24), 5);
        Check.equal("after it went, elsewhere", frames.grows(70, 70, 71, 71), 4);
        CountedFrames nested = CountedFrames.longRow(14, 5);
        nested.goAll(0, 13);
        Check.equal("after nested ones went", nested.grows(70, 70, 72, 72), 9);
    }

    private static void growsByNothing() {
        CountedFrames frames = CountedFrames.of(new int[] {10, 10, 19, 19});
        Check.equal("the same", frames.grows(10, 10, 19, 19), 0);
        Check.equal("one square", frames.grows(19, 10, 19, 10), 0);
        Check.equal("one more column", frames.grows(10, 10, 20, 19), 10);
        Check.equal("one more column ahead", frames.grows(9, 10, 19, 19), 10);
        Check.equal("one more row", frames.grows(10, 10, 19, 20), 10);
        Check.equal("one more row ahead", frames.grows(10, 9, 19, 19), 10);
        Check.equal("one more of all", frames.grows(9, 9, 20, 20), 44);
        Check.equal("a square at the corner", frames.grows(20, 20, 20, 20), 21);
    }

    private static void growsAheadOfSplitting() {
        CountedFrames frames = CountedFrames.row(0, 10, 20, 30);
        Check.equal("of a full frame", frames.grows(50, 0, 50, 0), 20);
        CountedFrames nested = CountedFrames.longRow(13, 5);
        Check.equal("of a full frame of full frames", nested.grows(65, 0, 65, 0), 5 + 5);
        CountedFrames deep = CountedFrames.longRow(40, 2);
        Check.equal("of three full ones", deep.grows(80, 0, 80, 0), 2 + 2 + 2);
    }

    private static void growsChangesNothing() {
        CountedFrames[] states = {new CountedFrames(), CountedFrames.row(1, 2, 3, 4), CountedFrames.longRow(13, 5),
            CountedFrames.longRow(60, 1)};
        for (CountedFrames frames : states) {
            Check.unchanged("grows", frames, f -> f.grows(0, 0, 99, 99));
            Check.unchanged("grows", frames, f -> f.grows(99, 0, 99, 0));
            Check.equal("the same again", frames.grows(99, 0, 99, 0), frames.grows(99, 0, 99, 0));
        }
        Check.equal("the next number", states[1].come(0, 0, 0, 0), 4);
    }

    private static void splitsOfFullFrames() {
        int[][] due = {{0, 0}, {1, 0}, {3, 0}, {4, 1}, {5, 0}, {6, 0}, {7, 1}, {12, 0}, {13, 2}, {14, 0}, {22, 2}, {39, 0}, {40, 3}};
        for (int[] pair : due) {
            CountedFrames frames = CountedFrames.longRow(pair[0], 2);
            int splits = frames.count(7);
            Check.equal("behind " + pair[0], frames.splits(98, 0, 98, 0), pair[1]);
            frames.come(98, 0, 98, 0);
            Check.equal("done behind " + pair[0], frames.count(7) - splits, pair[1]);
        }
        // Four frames are held; the last one alone is full.
        CountedFrames room = CountedFrames.longRow(13, 5);
        Check.equal("where there is room, beside a full one", room.splits(0, 0, 0, 0), 0);
        Check.equal("at the full one", room.splits(60, 0, 60, 0), 2);
        room.go(12);
        Check.equal("at the one that was full", room.splits(60, 0, 60, 0), 0);
        room.comeInARow(60);
        room.goAll(0, 2);
        Check.equal("at a full one, with room above it", room.splits(60, 0, 60, 0), 1);
    }

    private static void splitsForAllOfIt() {
        // The hedges 0..20, which holds four, and 40..60, which has room: along x, and the same along y.
        int[][] due = {{20, 39, 1}, {30, 45, 0}, {16, 50, 0}, {20, 40, 1}, {20, 41, 0}, {0, 60, 1}, {40, 40, 0}};
        CountedFrames alongX = CountedFrames.row(0, 10, 20, 40, 60, 15);
        CountedFrames alongY = CountedFrames.of(
            square(0, 0), square(0, 10), square(0, 20), square(0, 40), square(0, 60), square(0, 15));
        for (int[] d : due) {
            Check.equal("x " + d[0] + " to " + d[1], alongX.splits(d[0], 0, d[1], 0), d[2]);
            Check.equal("y " + d[0] + " to " + d[1], alongY.splits(0, d[0], 0, d[1]), d[2]);
        }
    }

    private static void splitsAfter60() {
        // One frame, as all but the last few were given up ahead of them.
        CountedFrames frames = new CountedFrames();
        for (int number = 0; number < 56; number++) {
            frames.come(number, 0, number, 0);
            frames.go(number);
        }
        frames.comeInARow(1, 2, 3);
        Check.equal("if there were 59", frames.splits(0, 0, 0, 0), 0);
        frames.comeInARow(4);
        Check.equal("if there were 60", frames.splits(0, 0, 0, 0), 1);
        Check.refuses("come then", frames, STATE, () -> frames.come(0, 0, 0, 0));
        Check.refuses("wrong splits then", frames, ARGUMENT, () -> frames.splits(0, 0, 0, 100));
        frames.go(59);
        Check.equal("if there were 60 and 3 are held", frames.splits(0, 0, 0, 0), 0);
        frames.goAll(56, 58);
        Check.equal("if there were 60 and none is held", frames.splits(0, 0, 0, 0), 0);
        // 60 in a row: the last frame holds 60 - 3 * 19, as each one behind the first holds 3 when the next one starts.
        CountedFrames held = CountedFrames.longRow(60, 1);
        Check.equal("those of the last frame", held.told(59, 6), 3);
        Check.equal("if 60 are held", held.splits(60, 0, 60, 0), 0);
    }

    private static void splitsChangesNothing() {
        CountedFrames[] states = {new CountedFrames(), CountedFrames.row(1, 2, 3, 4), CountedFrames.longRow(13, 5),
            CountedFrames.longRow(60, 1)};
        for (CountedFrames frames : states) {
            Check.unchanged("splits", frames, f -> f.splits(0, 0, 99, 99));
            Check.unchanged("splits", frames, f -> f.splits(99, 0, 99, 0));
            Check.equal("the same again", frames.splits(99, 0, 99, 0), frames.splits(99, 0, 99, 0));
        }
        Check.equal("the next number", states[1].come(0, 0, 0, 0), 4);
    }

    // ---- 12 and 13

    private static void meanOfThoseHeld() {
        CountedFrames frames = CountedFrames.of(square(0, 0), square(0, 0), new int[] {0, 0, 1, 0});
        Check.equal("of three", frames.mean(), 4.0 / 3.0);
        frames.go(0);
        Check.equal("of two", frames.mean(), 1.5);
        frames.go(2);
        Check.equal("of one", frames.mean(), 1.0);
        CountedFrames whole = new CountedFrames();
        for (int number = 0; number < 60; number++) {
            whole.come(0, 0, 99, 99);
        }
        Check.equal("of the greatest ones", whole.mean(), 10000.0);
        whole.goAll(0, 58);
        Check.equal("of the greatest one", whole.mean(), 10000.0);
    }

    private static void meanOfNone() {
        CountedFrames frames = new CountedFrames();
        Check.equal("none came", frames.mean(), 0.0);
        frames.come(0, 0, 0, 0);
        Check.equal("one square", frames.mean(), 1.0);
        frames.go(0);
        Check.equal("none is held", frames.mean(), 0.0);
    }

    private static void digestOfNew() {
        Check.equal("of a new one", new CountedFrames().digest(), Check.folded(0, 0, 1, 0, 0, 0, 0, 0, 0, 0, 0, 0, 0, 0));
    }

    private static void digestWraps() {
        // Made with numbers that have no end, then brought between -2^63 and 2^63.
        BigInteger whole = BigInteger.valueOf(1303);
        int[] numbers = {1, 1, 1, 0, 100, 100, 0, 0, 1, 90, 0, 99, 9, 100, 0, 1, 100, 0, 1, 90, 0, 99, 9, 0};
        for (int x : numbers) {
            whole = whole.multiply(BigInteger.valueOf(31)).add(BigInteger.valueOf(x));
        }
        Check.isTrue("the whole number is longer than 64 bits", whole.bitLength() > 64);
        Check.equal("wrapped", CountedFrames.of(new int[] {90, 0, 99, 9}).digest(), whole.longValue());
    }

    private static void digestOfAllThatCame() {
        CountedFrames frames = CountedFrames.of(new int[] {3, 4, 5, 7}, square(3, 4));
        frames.go(0);
        Check.equal("one of two was given up", frames.digest(), Check.folded(
            1, 2, 1, 0, 1, 1, 0, 0, 1,
            3, 4, 5, 7, 12, -1, -1, -1, 1,
            3, 4, 3, 4, 1, 0, 1, 1, 0,
            1, 3, 4, 3, 4, 1));
    }

    private static void digestOfFrames() {
        CountedFrames two = CountedFrames.row(40, 0, 30, 10, 20);
        Check.equal("two frames", two.digest(), Check.folded(
            5, 5, 3, 1, 73, 41, 0, 1, 2,
            40, 0, 40, 0, 1, 1, 2, 11, 0,
            0, 0, 0, 0, 1, 0, 3, 21, 0,
            30, 0, 30, 0, 1, 0, 2, 11, 0,
            10, 0, 10, 0, 1, 1, 3, 21, 0,
            20, 0, 20, 0, 1, 2, 3, 21, 0,
            2, 0, 0, 40, 0,
            3, 0, 0, 20, 0, 1, 3, 4,
            2, 30, 0, 40, 0, 2, 0));
        // 14 in a row, of which 0 to 4, 6 and 7 are given up: frames of frames that hold unlike many.
        CountedFrames three = CountedFrames.longRow(14, 5);
        three.goAll(0, 4);
        three.goAll(6, 7);
        Check.equal("frames of frames", three.digest(), Check.folded(
            7, 14, 7, 2, 41 + 16 + 21 + 1 + 1 + 11 + 6, 41, 0, 5, 2,
            0, 0, 0, 0, 1, -1, -1, -1, 0,
            5, 0, 5, 0, 1, -1, -1, -1, 0,
            10, 0, 10, 0, 1, -1, -1, -1, 0,
            15, 0, 15, 0, 1, -1, -1, -1, 0,
            20, 0, 20, 0, 1, -1, -1, -1, 0,
            25, 0, 25, 0, 1, 0, 1, 1, 0,
            30, 0, 30, 0, 1, -1, -1, -1, 0,
            35, 0, 35, 0, 1, -1, -1, -1, 0,
            40, 0, 40, 0, 1, 0, 1, 1, 0,
            45, 0, 45, 0, 1, 0, 3, 11, 0,
            50, 0, 50, 0, 1, 1, 3, 11, 0,
            55, 0, 55, 0, 1, 2, 3, 11, 0,
            60, 0, 60, 0, 1, 0, 2, 6, 0,
            65, 0, 65, 0, 1, 1, 2, 6, 0,
            2, 25, 0, 65, 0,
            2, 25, 0, 40, 0,
            1, 25, 0, 25, 0, 5,
            1, 40, 0, 40, 0, 8,
            2, 45, 0, 65, 0,
            3, 45, 0, 55, 0, 9, 10, 11,
            2, 60, 0, 65, 0, 12, 13));
    }

    private static void digestWithoutHedge() {
        CountedFrames frames = CountedFrames.of(new int[] {50, 60, 51, 61});
        frames.go(0);
        Check.equal("after the only one went", frames.digest(), Check.folded(
            0, 1, 1, 0, 0, 0, 0, 0, 0,
            50, 60, 51, 61, 4, -1, -1, -1, 0,
            0, 0, 0, 0, 0));
        // A hedge of one square at 0 0 has the same edges, yet one is held.
        Check.equal("with a square at 0 0", CountedFrames.of(square(0, 0)).digest(), Check.folded(
            1, 1, 1, 0, 1, 1, 0, 0, 1,
            0, 0, 0, 0, 1, 0, 1, 1, 0,
            1, 0, 0, 0, 0, 0));
    }
}
