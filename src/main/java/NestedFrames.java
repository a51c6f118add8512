/** Allotments in nested frames. README.md tells how to use it. */
public final class NestedFrames {
    private static final int MOST_ALLOTMENTS = 60;
    private static final int GREATEST_EDGE = 99;
    private static final int FULL = 4;
    private static final int STAYING = 3;
    private static final int NONE = -1;
    private static final int LAST_QUESTION = 8;
    private static final long DIGEST_START = 1303;
    // 60 allotments fill five levels at most: a walk stops here only if the chain of frames were broken.
    private static final int DEEPEST = 40;

    private final Piece[] allotments;
    private int came;
    private int splitsInAll;
    private Piece top;

    /** What a frame can hold: an allotment, or a frame, whose rectangle is its hedge. */
    private static final class Piece {
        private final int number;
        // 0 for an allotment, 1 for a frame that holds allotments, one more for each step above.
        private final int level;
        private final Piece[] held;
        private int size;
        private Piece holder;
        private int x1;
        private int y1;
        private int x2;
        private int y2;

        private Piece(int number, int x1, int y1, int x2, int y2) {
            this.number = number;
            this.level = 0;
            this.held = new Piece[0];
            this.x1 = x1;
            this.y1 = y1;
            this.x2 = x2;
            this.y2 = y2;
        }

        private Piece(int level) {
            this.number = NONE;
            this.level = level;
            // One place more than a frame may keep: it holds 5 until it is split.
            this.held = new Piece[FULL + 1];
            // The rectangle without squares: its area is 0 and it overlaps nothing.
            this.x2 = -1;
            this.y2 = -1;
        }

        private int area() {
            return (x2 - x1 + 1) * (y2 - y1 + 1);
        }

        private boolean meets(Piece other) {
            return x1 <= other.x2 && other.x1 <= x2 && y1 <= other.y2 && other.y1 <= y2;
        }

        private int growthFor(Piece other) {
            if (area() == 0) {
                return other.area();
            }
            int wide = Math.max(x2, other.x2) - Math.min(x1, other.x1) + 1;
            int high = Math.max(y2, other.y2) - Math.min(y1, other.y1) + 1;
            return wide * high - area();
        }

        private int squaredDistance(int x, int y) {
            int dx = Math.max(0, Math.max(x1 - x, x - x2));
            int dy = Math.max(0, Math.max(y1 - y, y - y2));
            return dx * dx + dy * dy;
        }

        private Piece at(int place) {
            return place >= 0 && place < size && place < held.length ? held[place] : null;
        }

        private int placeOf(Piece part) {
            for (int place = 0; place < size; place++) {
                if (at(place) == part) {
                    return place;
                }
            }
            return NONE;
        }

        private void insert(int place, Piece part) {
            if (place < 0 || place > size || size >= held.length) {
                return;
            }
            for (int behind = size; behind > place; behind--) {
                held[behind] = held[behind - 1];
            }
            held[place] = part;
            part.holder = this;
            size++;
        }

        private void append(Piece part) {
            insert(size, part);
        }

        private Piece takeOut(int place) {
            Piece gone = at(place);
            if (gone == null) {
                return null;
            }
            for (int behind = place + 1; behind < size && behind < held.length; behind++) {
                held[behind - 1] = held[behind];
            }
            size--;
            if (size < held.length) {
                held[size] = null;
            }
            gone.holder = null;
            return gone;
        }

        private void tighten() {
            Piece first = at(0);
            x1 = first == null ? 0 : first.x1;
            y1 = first == null ? 0 : first.y1;
            x2 = first == null ? -1 : first.x2;
            y2 = first == null ? -1 : first.y2;
            for (int place = 1; place < size; place++) {
                Piece part = at(place);
                if (part != null) {
                    widenTo(part);
                }
            }
        }

        private void widenTo(Piece part) {
            x1 = Math.min(x1, part.x1);
            y1 = Math.min(y1, part.y1);
            x2 = Math.max(x2, part.x2);
            y2 = Math.max(y2, part.y2);
        }

        private int lowerEdge(boolean alongX) {
            return alongX ? x1 : y1;
        }

        private int lowerEdgeAt(int place, boolean alongX) {
            Piece part = at(place);
            return part == null ? 0 : part.lowerEdge(alongX);
        }

        private int spreadOfLowerEdges(boolean alongX) {
            int least = lowerEdgeAt(0, alongX);
            int greatest = least;
            for (int place = 1; place < size; place++) {
                int edge = lowerEdgeAt(place, alongX);
                least = Math.min(least, edge);
                greatest = Math.max(greatest, edge);
            }
            return greatest - least;
        }

        private boolean splitsAlongX() {
            return spreadOfLowerEdges(true) >= spreadOfLowerEdges(false);
        }

        private void sortByLowerEdges(boolean alongX) {
            for (int next = 1; next < size; next++) {
                int edge = lowerEdgeAt(next, alongX);
                int place = 0;
                // Equals are passed, so that they keep the order in which they were held.
                while (place < next && lowerEdgeAt(place, alongX) <= edge) {
                    place++;
                }
                Piece moved = takeOut(next);
                if (moved != null) {
                    insert(place, moved);
                }
            }
        }
    }

    public NestedFrames() {
        allotments = new Piece[MOST_ALLOTMENTS];
        top = new Piece(1);
    }

    public int come(int x1, int y1, int x2, int y2) throws IllegalArgumentException, IllegalStateException {
        if (!isRectangle(x1, y1, x2, y2)) {
            throw new IllegalArgumentException("no such rectangle");
        }
        if (came < 0 || came >= allotments.length) {
            throw new IllegalStateException("there were 60 allotments");
        }
        Piece fresh = new Piece(came, x1, y1, x2, y2);
        allotments[came] = fresh;
        came++;
        Piece frame = frameFor(fresh);
        frame.append(fresh);
        splitCrowdedAndTighten(frame);
        return fresh.number;
    }

    public int go(int allotment) throws IndexOutOfBoundsException, IllegalStateException {
        Piece given = allotmentOrNull(allotment);
        if (given == null) {
            throw new IndexOutOfBoundsException("no such allotment");
        }
        Piece frame = given.holder;
        if (frame == null) {
            throw new IllegalStateException("it was given up");
        }
        frame.takeOut(frame.placeOf(given));
        dropEmptyAndTighten(frame);
        lowerTop();
        return given.area();
    }

    public int told(int allotment, int what) throws IndexOutOfBoundsException {
        Piece asked = allotmentOrNull(allotment);
        if (asked == null || !isQuestion(what)) {
            throw new IndexOutOfBoundsException("no such allotment or question");
        }
        return answerOf(asked, what);
    }

    public int way(int allotment, int step) throws IndexOutOfBoundsException {
        Piece asked = allotmentOrNull(allotment);
        if (asked == null || step < 0) {
            throw new IndexOutOfBoundsException("no such allotment or step");
        }
        int levelReached = top.level - 1 - step;
        if (levelReached < 1) {
            return NONE;
        }
        Piece frame = asked.holder;
        while (frame != null && frame.level < levelReached) {
            frame = frame.holder;
        }
        return placeBesideOthers(frame);
    }

    public int overlaps(int x1, int y1, int x2, int y2) throws IllegalArgumentException {
        if (!isRectangle(x1, y1, x2, y2)) {
            throw new IllegalArgumentException("no such rectangle");
        }
        return heldThatMeet(new Piece(NONE, x1, y1, x2, y2));
    }

    public int looks(int x1, int y1, int x2, int y2) throws IllegalArgumentException {
        if (!isRectangle(x1, y1, x2, y2)) {
            throw new IllegalArgumentException("no such rectangle");
        }
        return framesLookedAt(top, new Piece(NONE, x1, y1, x2, y2), 0);
    }

    public int nearest(int x, int y) throws IllegalArgumentException {
        if (x < 0 || y < 0 || x > GREATEST_EDGE || y > GREATEST_EDGE) {
            throw new IllegalArgumentException("no such square");
        }
        Piece best = null;
        for (int number = 0; number < came; number++) {
            Piece piece = heldOrNull(number);
            if (piece != null && (best == null || piece.squaredDistance(x, y) < best.squaredDistance(x, y))) {
                best = piece;
            }
        }
        return best == null ? NONE : best.number;
    }

    public int count(int what) throws IndexOutOfBoundsException {
        if (!isQuestion(what)) {
            throw new IndexOutOfBoundsException("no such question");
        }
        return counted(what);
    }

    public int grows(int x1, int y1, int x2, int y2) throws IllegalArgumentException {
        if (!isRectangle(x1, y1, x2, y2)) {
            throw new IllegalArgumentException("no such rectangle");
        }
        Piece asked = new Piece(NONE, x1, y1, x2, y2);
        int growth = 0;
        for (Piece frame = frameFor(asked); frame != null; frame = frame.holder) {
            growth += frame.growthFor(asked);
        }
        return growth;
    }

    public int splits(int x1, int y1, int x2, int y2) throws IllegalArgumentException {
        if (!isRectangle(x1, y1, x2, y2)) {
            throw new IllegalArgumentException("no such rectangle");
        }
        int crowded = 0;
        Piece frame = frameFor(new Piece(NONE, x1, y1, x2, y2));
        while (frame != null && frame.size >= FULL) {
            crowded++;
            frame = frame.holder;
        }
        return crowded;
    }

    public double mean() {
        int held = 0;
        int squares = 0;
        for (int number = 0; number < came; number++) {
            Piece piece = heldOrNull(number);
            if (piece != null) {
                held++;
                squares += piece.area();
            }
        }
        return held == 0 ? 0.0 : (double) squares / (double) held;
    }

    public long digest() {
        long d = DIGEST_START;
        for (int what = 0; what <= LAST_QUESTION; what++) {
            d = d * 31 + counted(what);
        }
        for (int number = 0; number < came; number++) {
            Piece piece = allotmentOrNull(number);
            for (int what = 0; piece != null && what <= LAST_QUESTION; what++) {
                d = d * 31 + answerOf(piece, what);
            }
        }
        return digestOfFrames(top, d, 0);
    }

    private static boolean isRectangle(int x1, int y1, int x2, int y2) {
        return x1 >= 0 && y1 >= 0 && x2 <= GREATEST_EDGE && y2 <= GREATEST_EDGE && x1 <= x2 && y1 <= y2;
    }

    private static boolean isQuestion(int what) {
        return what >= 0 && what <= LAST_QUESTION;
    }

    private Piece allotmentOrNull(int number) {
        return number >= 0 && number < came && number < allotments.length ? allotments[number] : null;
    }

    private Piece heldOrNull(int number) {
        Piece piece = allotmentOrNull(number);
        return piece == null || piece.holder == null ? null : piece;
    }

    private Piece frameFor(Piece asked) {
        Piece frame = top;
        for (int step = 0; step < DEEPEST && frame.level > 1; step++) {
            Piece next = leastGrowing(frame, asked);
            if (next == null) {
                return frame;
            }
            frame = next;
        }
        return frame;
    }

    private static Piece leastGrowing(Piece frame, Piece asked) {
        Piece best = null;
        for (int place = 0; place < frame.size; place++) {
            Piece part = frame.at(place);
            if (part != null && (best == null || isBetterFor(asked, part, best))) {
                best = part;
            }
        }
        return best;
    }

    private static boolean isBetterFor(Piece asked, Piece frame, Piece best) {
        int growth = frame.growthFor(asked);
        int least = best.growthFor(asked);
        return growth < least || growth == least && frame.area() < best.area();
    }

    private void splitCrowdedAndTighten(Piece lowest) {
        Piece frame = lowest;
        // A counter, for a split makes objects and may make the chain longer by one.
        for (int step = 0; step < DEEPEST && frame != null; step++) {
            if (frame.size > FULL) {
                split(frame);
            }
            frame.tighten();
            frame = frame.holder;
        }
    }

    private void split(Piece frame) {
        if (frame.holder == null) {
            raiseTop();
        }
        Piece above = frame.holder;
        if (above == null) {
            return;
        }
        frame.sortByLowerEdges(frame.splitsAlongX());
        Piece fresh = new Piece(frame.level);
        for (int moved = STAYING; moved <= FULL; moved++) {
            Piece part = frame.takeOut(STAYING);
            if (part != null) {
                fresh.append(part);
            }
        }
        fresh.tighten();
        above.insert(above.placeOf(frame) + 1, fresh);
        splitsInAll++;
    }

    private void raiseTop() {
        Piece above = new Piece(top.level + 1);
        above.append(top);
        top = above;
    }

    private static void dropEmptyAndTighten(Piece lowest) {
        Piece frame = lowest;
        while (frame != null) {
            Piece above = frame.holder;
            if (frame.size == 0 && above != null) {
                above.takeOut(above.placeOf(frame));
            } else {
                frame.tighten();
            }
            frame = above;
        }
    }

    private void lowerTop() {
        for (int step = 0; step < DEEPEST && top.level > 1 && top.size == 1; step++) {
            Piece only = top.takeOut(0);
            if (only == null) {
                return;
            }
            top = only;
        }
    }

    private static int placeBesideOthers(Piece piece) {
        if (piece == null || piece.holder == null) {
            return NONE;
        }
        return piece.holder.placeOf(piece);
    }

    private int answerOf(Piece piece, int what) {
        Piece frame = piece.holder;
        switch (what) {
            case 0:
                return piece.x1;
            case 1:
                return piece.y1;
            case 2:
                return piece.x2;
            case 3:
                return piece.y2;
            case 4:
                return piece.area();
            case 5:
                return placeBesideOthers(piece);
            case 6:
                return frame == null ? NONE : frame.size;
            case 7:
                return frame == null ? NONE : frame.area();
            default:
                return othersThatMeet(piece);
        }
    }

    private int othersThatMeet(Piece piece) {
        int all = heldThatMeet(piece);
        // One that is held is among those that it overlaps itself.
        return piece.holder == null ? all : all - 1;
    }

    private int heldThatMeet(Piece asked) {
        int met = 0;
        for (int number = 0; number < came; number++) {
            Piece piece = heldOrNull(number);
            if (piece != null && piece.meets(asked)) {
                met++;
            }
        }
        return met;
    }

    private int counted(int what) {
        switch (what) {
            case 0:
                return heldInAll();
            case 1:
                return came;
            case 2:
                return framesIn(top, 0);
            case 3:
                return top.level - 1;
            case 4:
                return hedgeAreasIn(top, 0);
            case 5:
                return top.area();
            case 6:
                return meetingPairsIn(top, 0);
            case 7:
                return splitsInAll;
            default:
                return top.size;
        }
    }

    private int heldInAll() {
        int held = 0;
        for (int number = 0; number < came; number++) {
            if (heldOrNull(number) != null) {
                held++;
            }
        }
        return held;
    }

    private static boolean isBottom(Piece frame, int depth) {
        return frame.level <= 1 || depth >= DEEPEST;
    }

    private static int framesIn(Piece frame, int depth) {
        int frames = 1;
        if (isBottom(frame, depth)) {
            return frames;
        }
        for (int place = 0; place < frame.size; place++) {
            Piece part = frame.at(place);
            if (part != null) {
                frames += framesIn(part, depth + 1);
            }
        }
        return frames;
    }

    private static int hedgeAreasIn(Piece frame, int depth) {
        int squares = frame.area();
        if (isBottom(frame, depth)) {
            return squares;
        }
        for (int place = 0; place < frame.size; place++) {
            Piece part = frame.at(place);
            if (part != null) {
                squares += hedgeAreasIn(part, depth + 1);
            }
        }
        return squares;
    }

    private static int meetingPairsIn(Piece frame, int depth) {
        int pairs = 0;
        if (isBottom(frame, depth)) {
            return pairs;
        }
        for (int place = 0; place < frame.size; place++) {
            Piece part = frame.at(place);
            if (part != null) {
                pairs += meetingsBehind(frame, place, part) + meetingPairsIn(part, depth + 1);
            }
        }
        return pairs;
    }

    private static int meetingsBehind(Piece frame, int place, Piece part) {
        int meetings = 0;
        for (int behind = place + 1; behind < frame.size; behind++) {
            Piece other = frame.at(behind);
            if (other != null && other.meets(part)) {
                meetings++;
            }
        }
        return meetings;
    }

    private static int framesLookedAt(Piece frame, Piece asked, int depth) {
        int looked = 1;
        if (isBottom(frame, depth)) {
            return looked;
        }
        for (int place = 0; place < frame.size; place++) {
            Piece part = frame.at(place);
            if (part != null && part.meets(asked)) {
                looked += framesLookedAt(part, asked, depth + 1);
            }
        }
        return looked;
    }

    private static long digestOfFrames(Piece frame, long before, int depth) {
        long d = digestOfFrame(frame, before);
        for (int place = 0; place < frame.size; place++) {
            Piece part = frame.at(place);
            if (part == null) {
                continue;
            }
            if (isBottom(frame, depth)) {
                d = d * 31 + part.number;
            } else {
                d = digestOfFrames(part, d, depth + 1);
            }
        }
        return d;
    }

    private static long digestOfFrame(Piece frame, long before) {
        boolean bare = frame.size == 0;
        long d = before * 31 + frame.size;
        d = d * 31 + (bare ? 0 : frame.x1);
        d = d * 31 + (bare ? 0 : frame.y1);
        d = d * 31 + (bare ? 0 : frame.x2);
        return d * 31 + (bare ? 0 : frame.y2);
    }
}
