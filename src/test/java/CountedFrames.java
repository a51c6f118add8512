/**
 * NestedFrames as the tests use it: what an object answers after 512 calls is free, so no test may rest on it.
 */
final class CountedFrames {
    static final int MOST_CALLS = 512;

    private final NestedFrames frames = new NestedFrames();
    private int calls = 0;
    private int came = 0;

    /** Allotments of one square each, at these x and y = 0. */
    static CountedFrames row(int... places) {
        CountedFrames made = new CountedFrames();
        made.comeInARow(places);
        return made;
    }

    /** A row that comes from left to right, with this gap from each to the next one. */
    static CountedFrames longRow(int length, int gap) {
        CountedFrames made = new CountedFrames();
        for (int k = 0; k < length; k++) {
            made.comeInARow(k * gap);
        }
        return made;
    }

    /** Allotments with these x1, y1, x2, y2. */
    static CountedFrames of(int[]... rectangles) {
        CountedFrames made = new CountedFrames();
        for (int[] r : rectangles) {
            made.come(r[0], r[1], r[2], r[3]);
        }
        return made;
    }

    void comeInARow(int... places) {
        for (int x : places) {
            come(x, 0, x, 0);
        }
    }

    void goAll(int first, int last) {
        for (int number = first; number <= last; number++) {
            go(number);
        }
    }

    /** What told() answers for each allotment that came. */
    String tells(int what) {
        StringBuilder line = new StringBuilder();
        for (int number = 0; number < came; number++) {
            line.append(number == 0 ? "" : " ").append(told(number, what));
        }
        return line.toString();
    }

    /** What way() answers for each allotment that came. */
    String ways(int step) {
        StringBuilder line = new StringBuilder();
        for (int number = 0; number < came; number++) {
            line.append(number == 0 ? "" : " ").append(way(number, step));
        }
        return line.toString();
    }

    String counts() {
        StringBuilder line = new StringBuilder();
        for (int what = 0; what <= 8; what++) {
            line.append(what == 0 ? "" : " ").append(count(what));
        }
        return line.toString();
    }

    int calls() {
        return calls;
    }

    private NestedFrames next() {
        calls++;
        if (calls > MOST_CALLS) {
            throw new AssertionError("this test makes more than 512 calls of one object");
        }
        return frames;
    }

    int come(int x1, int y1, int x2, int y2) {
        int number = next().come(x1, y1, x2, y2);
        came++;
        return number;
    }

    int go(int allotment) {
        return next().go(allotment);
    }

    int told(int allotment, int what) {
        return next().told(allotment, what);
    }

    int way(int allotment, int step) {
        return next().way(allotment, step);
    }

    int overlaps(int x1, int y1, int x2, int y2) {
        return next().overlaps(x1, y1, x2, y2);
    }

    int looks(int x1, int y1, int x2, int y2) {
        return next().looks(x1, y1, x2, y2);
    }

    int nearest(int x, int y) {
        return next().nearest(x, y);
    }

    int count(int what) {
        return next().count(what);
    }

    int grows(int x1, int y1, int x2, int y2) {
        return next().grows(x1, y1, x2, y2);
    }

    int splits(int x1, int y1, int x2, int y2) {
        return next().splits(x1, y1, x2, y2);
    }

    double mean() {
        return next().mean();
    }

    long digest() {
        return next().digest();
    }
}
