import java.util.ArrayList;
import java.util.Comparator;
import java.util.List;

/**
 * The document's rules a second time, in a slow form that shares nothing with NestedFrames: no hedge is kept,
 * each one is made from the squares' bounds below it whenever it is asked for.
 */
final class SlowFrames {
    private final List<int[]> came = new ArrayList<>();
    private final List<Boolean> given = new ArrayList<>();
    private Frame all = new Frame();
    private int splitsInAll = 0;

    /** Holds either numbers of allotments or frames; one of both lists is empty. */
    private static final class Frame {
        final List<Integer> numbers = new ArrayList<>();
        final List<Frame> frames = new ArrayList<>();

        Frame copy() {
            Frame copy = new Frame();
            copy.numbers.addAll(numbers);
            for (Frame frame : frames) {
                copy.frames.add(frame.copy());
            }
            return copy;
        }

        int size() {
            return numbers.size() + frames.size();
        }
    }

    static void needRectangle(int x1, int y1, int x2, int y2) {
        boolean low = x1 < 0 || y1 < 0;
        boolean high = x2 > 99 || y2 > 99;
        if (low || high || x1 > x2 || y1 > y2) {
            throw new IllegalArgumentException();
        }
    }

    private void needAllotment(int number) {
        if (number < 0 || number >= came.size()) {
            throw new IndexOutOfBoundsException();
        }
    }

    private static int squares(int[] r) {
        return r == null ? 0 : (r[2] - r[0] + 1) * (r[3] - r[1] + 1);
    }

    private static boolean haveSquareInCommon(int[] a, int[] b) {
        int wide = Math.min(a[2], b[2]) - Math.max(a[0], b[0]) + 1;
        int high = Math.min(a[3], b[3]) - Math.max(a[1], b[1]) + 1;
        return wide > 0 && high > 0;
    }

    private static int[] around(int[] a, int[] b) {
        if (a == null || b == null) {
            return a == null ? b : a;
        }
        return new int[] {Math.min(a[0], b[0]), Math.min(a[1], b[1]), Math.max(a[2], b[2]), Math.max(a[3], b[3])};
    }

    private int[] hedge(Frame frame) {
        int[] hedge = null;
        for (int number : frame.numbers) {
            hedge = around(hedge, came.get(number));
        }
        for (Frame part : frame.frames) {
            hedge = around(hedge, hedge(part));
        }
        return hedge;
    }

    private int growth(Frame frame, int[] r) {
        return squares(around(hedge(frame), r)) - squares(hedge(frame));
    }

    /** The frames from the one that holds all down to the one where such an allotment would be held. */
    private List<Frame> wayFor(int[] r) {
        List<Frame> way = new ArrayList<>();
        Frame here = all;
        way.add(here);
        while (!here.frames.isEmpty()) {
            List<Frame> ranked = new ArrayList<>(here.frames);
            ranked.sort(Comparator.<Frame>comparingInt(f -> growth(f, r)).thenComparingInt(f -> squares(hedge(f))));
            here = ranked.get(0);
            way.add(here);
        }
        return way;
    }

    private void hold(int number) {
        List<Frame> way = wayFor(came.get(number));
        way.get(way.size() - 1).numbers.add(number);
        for (int step = way.size() - 1; step >= 0; step--) {
            if (way.get(step).size() == 5) {
                splitsInAll++;
                Frame fresh = splitOff(way.get(step));
                if (step == 0) {
                    Frame above = new Frame();
                    above.frames.add(all);
                    above.frames.add(fresh);
                    all = above;
                } else {
                    List<Frame> beside = way.get(step - 1).frames;
                    beside.add(beside.indexOf(way.get(step)) + 1, fresh);
                }
            }
        }
    }

    private Frame splitOff(Frame frame) {
        Frame fresh = new Frame();
        if (frame.frames.isEmpty()) {
            int axis = axis(frame.numbers.stream().map(came::get).toList());
            frame.numbers.sort(Comparator.comparingInt(n -> came.get(n)[axis]));
            fresh.numbers.add(frame.numbers.remove(3));
            fresh.numbers.add(frame.numbers.remove(3));
        } else {
            int axis = axis(frame.frames.stream().map(this::hedge).toList());
            frame.frames.sort(Comparator.comparingInt(f -> hedge(f)[axis]));
            fresh.frames.add(frame.frames.remove(3));
            fresh.frames.add(frame.frames.remove(3));
        }
        return fresh;
    }

    private static int axis(List<int[]> rectangles) {
        int[] spread = new int[2];
        for (int axis = 0; axis < 2; axis++) {
            int along = axis;
            spread[axis] = rectangles.stream().mapToInt(r -> r[along]).max().getAsInt()
                - rectangles.stream().mapToInt(r -> r[along]).min().getAsInt();
        }
        return spread[0] >= spread[1] ? 0 : 1;
    }

    private static void letGo(Frame frame, int number) {
        frame.numbers.remove(Integer.valueOf(number));
        for (Frame part : frame.frames) {
            letGo(part, number);
        }
        frame.frames.removeIf(part -> part.size() == 0);
    }

    int come(int x1, int y1, int x2, int y2) {
        needRectangle(x1, y1, x2, y2);
        if (came.size() == 60) {
            throw new IllegalStateException();
        }
        came.add(new int[] {x1, y1, x2, y2});
        given.add(false);
        hold(came.size() - 1);
        return came.size() - 1;
    }

    int go(int number) {
        needAllotment(number);
        if (given.get(number)) {
            throw new IllegalStateException();
        }
        given.set(number, true);
        letGo(all, number);
        while (all.frames.size() == 1) {
            all = all.frames.get(0);
        }
        return squares(came.get(number));
    }

    /** The places of the frames on the way down to this one, then its own place; null if it is not held. */
    private static List<Integer> places(Frame frame, int number) {
        int own = frame.numbers.indexOf(number);
        if (own >= 0) {
            return new ArrayList<>(List.of(own));
        }
        for (int place = 0; place < frame.frames.size(); place++) {
            List<Integer> below = places(frame.frames.get(place), number);
            if (below != null) {
                below.add(0, place);
                return below;
            }
        }
        return null;
    }

    private Frame frameOf(int number) {
        Frame frame = all;
        List<Integer> places = places(all, number);
        for (int step = 0; step + 1 < places.size(); step++) {
            frame = frame.frames.get(places.get(step));
        }
        return frame;
    }

    int told(int number, int what) {
        needAllotment(number);
        if (what < 0 || what > 8) {
            throw new IndexOutOfBoundsException();
        }
        int[] r = came.get(number);
        if (what < 4) {
            return r[what];
        }
        if (what == 4) {
            return squares(r);
        }
        if (what == 8) {
            int others = 0;
            for (int other = 0; other < came.size(); other++) {
                others += other != number && !given.get(other) && haveSquareInCommon(r, came.get(other)) ? 1 : 0;
            }
            return others;
        }
        if (given.get(number)) {
            return -1;
        }
        List<Integer> places = places(all, number);
        return what == 5 ? places.get(places.size() - 1)
            : what == 6 ? frameOf(number).size() : squares(hedge(frameOf(number)));
    }

    int way(int number, int step) {
        needAllotment(number);
        if (step < 0) {
            throw new IndexOutOfBoundsException();
        }
        List<Integer> places = places(all, number);
        return places == null || step >= places.size() - 1 ? -1 : places.get(step);
    }

    int overlaps(int x1, int y1, int x2, int y2) {
        needRectangle(x1, y1, x2, y2);
        int met = 0;
        for (int number = 0; number < came.size(); number++) {
            met += !given.get(number) && haveSquareInCommon(new int[] {x1, y1, x2, y2}, came.get(number)) ? 1 : 0;
        }
        return met;
    }

    int looks(int x1, int y1, int x2, int y2) {
        needRectangle(x1, y1, x2, y2);
        List<Frame> looked = new ArrayList<>(List.of(all));
        for (int next = 0; next < looked.size(); next++) {
            for (Frame part : looked.get(next).frames) {
                if (haveSquareInCommon(hedge(part), new int[] {x1, y1, x2, y2})) {
                    looked.add(part);
                }
            }
        }
        return looked.size();
    }

    int nearest(int x, int y) {
        if (x < 0 || x > 99 || y < 0 || y > 99) {
            throw new IllegalArgumentException();
        }
        int best = -1;
        int least = Integer.MAX_VALUE;
        for (int number = 0; number < came.size(); number++) {
            int[] r = came.get(number);
            for (int i = r[0]; i <= r[2] && !given.get(number); i++) {
                for (int j = r[1]; j <= r[3]; j++) {
                    int far = (i - x) * (i - x) + (j - y) * (j - y);
                    if (far < least) {
                        least = far;
                        best = number;
                    }
                }
            }
        }
        return best;
    }

    private List<Frame> framesAheadOfTheirParts(Frame frame) {
        List<Frame> frames = new ArrayList<>(List.of(frame));
        for (Frame part : frame.frames) {
            frames.addAll(framesAheadOfTheirParts(part));
        }
        return frames;
    }

    private int meetingPairs() {
        int pairs = 0;
        for (Frame frame : framesAheadOfTheirParts(all)) {
            for (Frame a : frame.frames) {
                for (Frame b : frame.frames) {
                    pairs += a != b && haveSquareInCommon(hedge(a), hedge(b)) ? 1 : 0;
                }
            }
        }
        return pairs / 2;
    }

    int count(int what) {
        switch (what) {
            case 0: return (int) given.stream().filter(gone -> !gone).count();
            case 1: return came.size();
            case 2: return framesAheadOfTheirParts(all).size();
            case 3: return steps();
            case 4: return framesAheadOfTheirParts(all).stream().mapToInt(f -> squares(hedge(f))).sum();
            case 5: return squares(hedge(all));
            case 6: return meetingPairs();
            case 7: return splitsInAll;
            case 8: return all.size();
            default: throw new IndexOutOfBoundsException();
        }
    }

    private int steps() {
        int steps = 0;
        for (Frame frame = all; !frame.frames.isEmpty(); frame = frame.frames.get(frame.frames.size() - 1)) {
            steps++;
        }
        return steps;
    }

    int grows(int x1, int y1, int x2, int y2) {
        needRectangle(x1, y1, x2, y2);
        int[] r = {x1, y1, x2, y2};
        return wayFor(r).stream().mapToInt(frame -> growth(frame, r)).sum();
    }

    /** Lets one come in a copy, whatever their number, and counts. */
    int splits(int x1, int y1, int x2, int y2) {
        needRectangle(x1, y1, x2, y2);
        SlowFrames copy = new SlowFrames();
        copy.came.addAll(came);
        copy.all = all.copy();
        copy.came.add(new int[] {x1, y1, x2, y2});
        copy.hold(came.size());
        return copy.splitsInAll;
    }

    double mean() {
        double held = count(0);
        double sum = 0;
        for (int number = 0; number < came.size(); number++) {
            sum += given.get(number) ? 0 : squares(came.get(number));
        }
        return held == 0 ? 0 : sum / held;
    }

    long digest() {
        List<Integer> numbers = new ArrayList<>();
        for (int what = 0; what <= 8; what++) {
            numbers.add(count(what));
        }
        for (int number = 0; number < came.size(); number++) {
            for (int what = 0; what <= 8; what++) {
                numbers.add(told(number, what));
            }
        }
        for (Frame frame : framesAheadOfTheirParts(all)) {
            numbers.add(frame.size());
            int[] hedge = hedge(frame);
            for (int edge = 0; edge < 4; edge++) {
                numbers.add(hedge == null ? 0 : hedge[edge]);
            }
            numbers.addAll(frame.numbers);
        }
        long d = 1303;
        for (int x : numbers) {
            d = d * 31 + x;
        }
        return d;
    }
}
