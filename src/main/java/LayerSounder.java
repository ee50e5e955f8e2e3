/**
 * A sounder on a ship that tells water's paces layer by layer.
 *
 * The words in capitals are those of the document (DOC.md). All rows are made
 * once, with the object, and used again by every call: no call makes an object.
 */
public final class LayerSounder {
    public static final int NONE = -1, BAD = -2, NOT = -3, FULL = -4;

    private static final int LEAST_INT = -2147483648;
    private static final long LEAST_LONG = -9223372036854775808L;

    private static final int REELS = 8, FORMS = 3, MOST_ITEMS = 200, NO_FORM = -1;
    private static final int BYTES = 0, SHORTS = 1;
    private static final int FOUND_NULL = 1, FOUND_INDEX = 2, FOUND_CAST = 3, FOUND_STORE = 4, FOUND_SIZE = 5;

    private static final int LOWEST_NONE = -128, MOST_READING = 20000;
    private static final int FIRST_CELL_REEL = 0, FIRST_BOTTOM_REEL = 4;

    private static final int MOST_PINGS = 40, MOST_CELLS = 16, CELLS_AT_FIRST = 4;
    private static final int FARTHEST = 1000000;

    private static final int BY_BOTTOM = 1, BY_PLACES = 2;
    private static final int MOST_BOUND = 100000, BOUND_AT_FIRST = 1000;
    private static final int MOST_PACE = 20000;

    private static final int GOOD = 0, NO_OWN = 1, NO_ANSWER = 2, AT_EDGE = 3, A_THREE = 4, TOO_ODD = 5, TOO_FAST = 6;

    private static final int TURNS = 36, THREE_QUARTERS = 27;
    private static final long LENGTH_OF_TWO_TURNS = 4225L;

    /** C of each TURN. S of a TURN is C of the one three quarters on (a quarter before it), so one row serves both. */
    private static final int[] C_OF_TURNS = {
        65, 63, 60, 56, 52, 39, 33, 25, 16,
        0, -16, -25, -33, -39, -52, -56, -60, -63,
        -65, -63, -60, -56, -52, -39, -33, -25, -16,
        0, 16, 25, 33, 39, 52, 56, 60, 63
    };

    private final Reel[] reels = new Reel[REELS];
    private final Track track = new Track();
    private final Beams beams = new Beams();
    private final Drift ownDrift = new Drift();
    private final Drift paceDrift = new Drift();
    private final Drift firstSum = new Drift();
    private final Drift secondSum = new Drift();

    private int layers = CELLS_AT_FIRST;
    private int howOwn = 0;
    private int skewTurn = 0;
    private int edgeCells = 0;
    private boolean threesTaken = true;
    private int oddBound = BOUND_AT_FIRST;
    private int latestFinding = 0;

    public LayerSounder() {
        for (int r = 0; r < reels.length; r++) {
            reels[r] = new Reel();
        }
    }

    // ---- reels

    public int reel(int r, int form, int n) {
        if (!isReel(r) || !isForm(form) || n > MOST_ITEMS) {
            return BAD;
        }
        if (n < 0) {
            return found(FOUND_SIZE);
        }
        reels[r].renew(form, n);
        return n;
    }

    public int lose(int r) {
        if (!isReel(r)) {
            return BAD;
        }
        if (reels[r].isLost()) {
            return found(FOUND_NULL);
        }
        return reels[r].drop();
    }

    public int put(int r, int form, int i, int v) {
        if (!isReel(r) || !isForm(form)) {
            return BAD;
        }
        int wrong = reels[r].findingAt(form, i);
        if (wrong != 0) {
            return found(wrong);
        }
        reels[r].store(i, v);
        return 1;
    }

    public int get(int r, int form, int i) {
        if (!isReel(r) || !isForm(form)) {
            return LEAST_INT;
        }
        int wrong = reels[r].findingAt(form, i);
        if (wrong != 0) {
            found(wrong);
            return LEAST_INT;
        }
        return reels[r].item(i);
    }

    public int copy(int r, int i, int q, int j, int n) {
        if (!isReel(r) || !isReel(q)) {
            return BAD;
        }
        Reel from = reels[r];
        Reel to = reels[q];
        if (from.isLost() || to.isLost()) {
            return found(FOUND_NULL);
        }
        if (from.form != to.form) {
            return found(FOUND_STORE);
        }
        if (!from.holdsRun(i, n) || !to.holdsRun(j, n)) {
            return found(FOUND_INDEX);
        }
        System.arraycopy(from.items, i, to.items, j, n);
        return 1;
    }

    // ---- pings

    public int cells(int l) {
        if (!isWithin(l, 1, MOST_CELLS)) {
            return BAD;
        }
        if (track.number > 0) {
            return NOT;
        }
        int before = layers;
        layers = l;
        return before;
    }

    public int ping(int heading, int x, int y, int depth) {
        if (!isTurn(heading) || !isPlace(x) || !isPlace(y) || !isWithin(depth, 0, MOST_CELLS)) {
            return BAD;
        }
        return track.append(heading, x, y, depth);
    }

    public int mend(int p, int heading) {
        if (!isTurn(heading)) {
            return BAD;
        }
        return track.changeHeading(p, heading);
    }

    public int clear() {
        int before = track.number;
        track.number = 0;
        return before;
    }

    public int about(int p, int what) {
        if (!track.isPing(p)) {
            return LEAST_INT;
        }
        switch (what) {
            case 0: return track.headingOf(p);
            case 1: return track.xOf(p);
            case 2: return track.yOf(p);
            case 3: return track.depthOf(p);
            case 4: return asNumber(findOwn(p));
            default: return LEAST_INT;
        }
    }

    public long own(int p, int what) {
        if (!track.isPing(p) || !isWithin(what, 0, 1)) {
            return asLong(BAD);
        }
        if (!findOwn(p)) {
            return asLong(NOT);
        }
        return ownDrift.part(skewTurn, what);
    }

    // ---- laws

    public int motion(int how) {
        if (!isWithin(how, 0, BY_PLACES)) {
            return BAD;
        }
        int before = howOwn;
        howOwn = how;
        return before;
    }

    public int skew(int turn) {
        if (!isTurn(turn)) {
            return BAD;
        }
        int before = skewTurn;
        skewTurn = turn;
        return before;
    }

    public int laws(int edge, boolean threes, int bound) {
        if (!isWithin(edge, 0, MOST_CELLS) || !isWithin(bound, 0, MOST_BOUND)) {
            return BAD;
        }
        edgeCells = edge;
        threesTaken = threes;
        oddBound = bound;
        return 1;
    }

    // ---- beams

    public int answer(int a, int b, int c, int d, int what) {
        beams.take(a, b, c, d);
        if (!beams.answered) {
            return LEAST_INT;
        }
        switch (what) {
            case 0: return beams.along;
            case 1: return beams.across;
            case 2: return beams.odd;
            case 3: return asNumber(beams.three);
            default: return LEAST_INT;
        }
    }

    public int beam(int along, int across, int odd, int sum, int b) {
        if (!isPart(along) || !isPart(across) || !isPart(odd) || !isWithin(sum, -FARTHEST, FARTHEST)) {
            return LEAST_INT;
        }
        switch (b) {
            case 0: return sum + odd + 2 * along;
            case 1: return sum + odd - 2 * along;
            case 2: return sum - odd + 2 * across;
            case 3: return sum - odd - 2 * across;
            default: return LEAST_INT;
        }
    }

    public int turned(int x, int y, int turn, int what) {
        if (!isPlace(x) || !isPlace(y) || !isTurn(turn) || !isWithin(what, 0, 1)) {
            return LEAST_INT;
        }
        return (int) (what == 0 ? xTurned(x, y, turn) : yTurned(x, y, turn));
    }

    public int fate(int p, int c) {
        if (!track.isPing(p) || !isCell(c)) {
            return BAD;
        }
        return judge(p, c, findOwn(p));
    }

    public long pace(int p, int c, int what) {
        if (!track.isPing(p) || !isCell(c) || !isWithin(what, 0, 1)) {
            return asLong(BAD);
        }
        if (!findOwn(p)) {
            return asLong(NOT);
        }
        readBeams(FIRST_CELL_REEL, itemOfCell(p, c));
        if (!beams.answered) {
            return asLong(NOT);
        }
        findPace(p);
        return paceDrift.part(skewTurn, what);
    }

    public int fates(int fate) {
        if (!isWithin(fate, GOOD, TOO_FAST)) {
            return BAD;
        }
        int many = 0;
        for (int p = 0; p < track.number; p++) {
            many += fatesOfPing(p, fate);
        }
        return many;
    }

    // ---- boxes, flows

    public long box(int p, int q, int c, int d, int what) {
        if (!isBox(p, q, c, d) || !isWithin(what, 0, 2)) {
            return asLong(BAD);
        }
        int many = sumGood(firstSum, p, q, c, d);
        return what == 0 ? many : firstSum.part(skewTurn, what - 1);
    }

    public long mean(int p, int q, int c, int d, int what) {
        if (!isBox(p, q, c, d) || !isWithin(what, 1, 2)) {
            return asLong(BAD);
        }
        int many = sumGood(firstSum, p, q, c, d);
        if (many == 0) {
            return asLong(NOT);
        }
        return Math.floorDiv(firstSum.part(skewTurn, what - 1), (long) many);
    }

    public long flow(int p, int q, int edges) {
        if (!track.isSpan(p, q) || p == q || !isWithin(edges, 0, 1)) {
            return asLong(BAD);
        }
        long sum = 0;
        for (int r = p; r < q; r++) {
            sum += flowOfPing(r, edges == 1);
        }
        return sum;
    }

    public int askew(int p, int q, int r, int s) {
        if (!track.isSpan(p, q) || !track.isSpan(r, s)) {
            return BAD;
        }
        int first = sumGood(firstSum, p, q, 0, layers - 1);
        int second = sumGood(secondSum, r, s, 0, layers - 1);
        if (first == 0 || second == 0) {
            return NOT;
        }
        firstSum.multiply(second);
        secondSum.multiply(first);
        firstSum.subtract(secondSum);
        return turnOfLeastMiss(firstSum);
    }

    public int closes(int p, int by) {
        if (!track.isPing(p) || !isWithin(by, 0, FARTHEST)) {
            return BAD;
        }
        for (int q = p + 2; q < track.number; q++) {
            if (track.areNear(p, q, by)) {
                return q;
            }
        }
        return NONE;
    }

    public int count(int what) {
        switch (what) {
            case 0: return track.number;
            case 1: return layers;
            case 2: return howOwn;
            case 3: return skewTurn;
            case 4: return edgeCells;
            case 5: return latestFinding;
            case 6: return oddBound;
            case 7: return asNumber(threesTaken);
            default: return BAD;
        }
    }

    public long digest() {
        long h = 17;
        for (int what = 0; what <= 4; what++) {
            h = 31 * h + count(what);
        }
        h = 31 * h + count(6);
        h = 31 * h + count(7);
        for (int p = 0; p < track.number; p++) {
            h = digestOfPing(h, p);
        }
        return h;
    }

    // ---- what a number may be

    private static boolean isWithin(int v, int least, int most) {
        return v >= least && v <= most;
    }

    private boolean isReel(int r) {
        return r >= 0 && r < reels.length;
    }

    private static boolean isForm(int form) {
        return isWithin(form, 0, FORMS - 1);
    }

    private static boolean isTurn(int turn) {
        return isWithin(turn, 0, TURNS - 1);
    }

    private static boolean isPlace(int v) {
        return isWithin(v, -FARTHEST, FARTHEST);
    }

    private static boolean isPart(int v) {
        return isWithin(v, -MOST_PACE, MOST_PACE);
    }

    private boolean isCell(int c) {
        return isWithin(c, 0, layers - 1);
    }

    private boolean isBox(int p, int q, int c, int d) {
        return track.isSpan(p, q) && isCell(c) && isCell(d) && c <= d;
    }

    // ---- how answers are told

    private int found(int finding) {
        latestFinding = finding;
        return -10 - finding;
    }

    private static long asLong(int refusal) {
        return LEAST_LONG - refusal;
    }

    private static int asNumber(boolean b) {
        return b ? 1 : 0;
    }

    // ---- turns

    private static long cOf(int turn) {
        return turn >= 0 && turn < TURNS ? C_OF_TURNS[turn] : 0;
    }

    private static long sOf(int turn) {
        return turn >= 0 && turn < TURNS ? C_OF_TURNS[(turn + THREE_QUARTERS) % TURNS] : 0;
    }

    private static long xTurned(long x, long y, int turn) {
        return cOf(turn) * x - sOf(turn) * y;
    }

    private static long yTurned(long x, long y, int turn) {
        return sOf(turn) * x + cOf(turn) * y;
    }

    // ---- cells

    private int readingOf(int r, int i) {
        return isReel(r) ? reels[r].reading(i) : LOWEST_NONE;
    }

    private void readBeams(int firstReel, int i) {
        int first = readingOf(firstReel, i);
        int second = readingOf(firstReel + 1, i);
        int third = readingOf(firstReel + 2, i);
        int fourth = readingOf(firstReel + 3, i);
        beams.take(first, second, third, fourth);
    }

    private int itemOfCell(int p, int c) {
        return layers * p + c;
    }

    /** Leaves OWN of a PING in ownDrift; false: it has none. */
    private boolean findOwn(int p) {
        ownDrift.rest();
        if (howOwn == BY_BOTTOM) {
            readBeams(FIRST_BOTTOM_REEL, p);
            if (!beams.answered) {
                return false;
            }
            ownDrift.swing(beams.along, beams.across, track.headingOf(p));
        }
        if (howOwn == BY_PLACES) {
            if (!track.isPing(p + 1)) {
                return false;
            }
            ownDrift.hold(LENGTH_OF_TWO_TURNS * track.stepX(p), LENGTH_OF_TWO_TURNS * track.stepY(p));
        }
        return true;
    }

    /** Leaves THE PACE of the CELL just read in paceDrift; findOwn(p) must have been asked. */
    private void findPace(int p) {
        paceDrift.rest();
        paceDrift.swing(beams.along, beams.across, track.headingOf(p));
        paceDrift.subtract(ownDrift);
    }

    /** The FATE of a CELL; it is read on the way, so that findPace(p) can follow. */
    private int judge(int p, int c, boolean hasOwn) {
        if (!hasOwn) {
            return NO_OWN;
        }
        readBeams(FIRST_CELL_REEL, itemOfCell(p, c));
        if (!beams.answered) {
            return NO_ANSWER;
        }
        if (c + edgeCells >= track.depthOf(p)) {
            return AT_EDGE;
        }
        if (beams.three && !threesTaken) {
            return A_THREE;
        }
        if (!isWithin(beams.odd, -oddBound, oddBound)) {
            return TOO_ODD;
        }
        return isPart(beams.along) && isPart(beams.across) ? GOOD : TOO_FAST;
    }

    private int fatesOfPing(int p, int fate) {
        boolean hasOwn = findOwn(p);
        int many = 0;
        for (int c = 0; c < layers; c++) {
            many += asNumber(judge(p, c, hasOwn) == fate);
        }
        return many;
    }

    private long digestOfPing(long before, int p) {
        long h = before;
        for (int what = 0; what <= 4; what++) {
            h = 31 * h + about(p, what);
        }
        boolean hasOwn = findOwn(p);
        for (int c = 0; c < layers; c++) {
            int fate = judge(p, c, hasOwn);
            h = 31 * h + fate;
            if (fate == GOOD) {
                findPace(p);
                h = 31 * h + paceDrift.east(skewTurn);
                h = 31 * h + paceDrift.north(skewTurn);
            }
        }
        return h;
    }

    // ---- sums

    /** Leaves the sum of the GOOD CELLS' PACES of a BOX in sum: how many there are. */
    private int sumGood(Drift sum, int p, int q, int c, int d) {
        sum.rest();
        int many = 0;
        for (int r = p; r <= q; r++) {
            boolean hasOwn = findOwn(r);
            for (int e = c; e <= d; e++) {
                if (judge(r, e, hasOwn) == GOOD) {
                    findPace(r);
                    sum.add(paceDrift);
                    many++;
                }
            }
        }
        return many;
    }

    private long flowOfPing(int p, boolean edges) {
        boolean hasOwn = findOwn(p);
        long sum = 0;
        long latest = 0;
        int lowest = -1;
        for (int c = 0; c < layers; c++) {
            if (judge(p, c, hasOwn) != GOOD) {
                continue;
            }
            findPace(p);
            latest = flowOfPace(p);
            if (edges && lowest < 0) {
                sum += latest * c;
            }
            sum += latest;
            lowest = c;
        }
        // Where no CELL is GOOD, latest is still 0, and so is what the lower edge adds.
        return edges ? sum + latest * cellsUnder(p, lowest) : sum;
    }

    private long flowOfPace(int p) {
        return paceDrift.east(skewTurn) * track.stepY(p) - paceDrift.north(skewTurn) * track.stepX(p);
    }

    private int cellsUnder(int p, int c) {
        return Math.min(layers, track.depthOf(p)) - 1 - c;
    }

    private static int turnOfLeastMiss(Drift gap) {
        int best = 0;
        long least = missBelowZero(gap, 0);
        for (int turn = 1; turn < TURNS; turn++) {
            long miss = missBelowZero(gap, turn);
            if (miss > least) {
                least = miss;
                best = turn;
            }
        }
        return best;
    }

    /** Amounts are told as numbers below 0, where the least long has one too: the greater amount is the lesser number. */
    private static long missBelowZero(Drift gap, int turn) {
        return Math.min(belowZero(gap.east(turn)), belowZero(gap.north(turn)));
    }

    private static long belowZero(long v) {
        return v > 0 ? -v : v;
    }

    /** A row of items, or LOST. Its room is made once, whatever its FORM. */
    private static final class Reel {
        private final int[] items = new int[MOST_ITEMS];
        private int form = NO_FORM;
        private int size = 0;

        boolean isLost() {
            return form == NO_FORM;
        }

        void renew(int newForm, int n) {
            form = newForm;
            size = Math.min(n, items.length);
            for (int i = 0; i < size; i++) {
                items[i] = 0;
            }
        }

        int drop() {
            int before = size;
            form = NO_FORM;
            size = 0;
            return before;
        }

        boolean holds(int i) {
            return i >= 0 && i < size;
        }

        boolean holdsRun(int i, int n) {
            return i >= 0 && n >= 0 && i <= size - n;
        }

        int findingAt(int asForm, int i) {
            if (isLost()) {
                return FOUND_NULL;
            }
            if (form != asForm) {
                return FOUND_CAST;
            }
            return holds(i) ? 0 : FOUND_INDEX;
        }

        void store(int i, int v) {
            if (holds(i)) {
                items[i] = narrowed(v);
            }
        }

        int item(int i) {
            return holds(i) ? items[i] : 0;
        }

        int reading(int i) {
            return i >= 0 && i < size ? items[i] : LOWEST_NONE;
        }

        private int narrowed(int v) {
            if (form == BYTES) {
                return (byte) v;
            }
            return form == SHORTS ? (short) v : v;
        }
    }

    /** The PINGS: where the ship was and how it headed. */
    private static final class Track {
        private final int[] headings = new int[MOST_PINGS];
        private final int[] xs = new int[MOST_PINGS];
        private final int[] ys = new int[MOST_PINGS];
        private final int[] depths = new int[MOST_PINGS];
        private int number = 0;

        boolean isPing(int p) {
            return p >= 0 && p < number;
        }

        boolean isSpan(int p, int q) {
            return isPing(p) && isPing(q) && p <= q;
        }

        int append(int heading, int x, int y, int depth) {
            int p = number;
            if (p < 0 || p >= MOST_PINGS) {
                return FULL;
            }
            headings[p] = heading;
            xs[p] = x;
            ys[p] = y;
            depths[p] = depth;
            number++;
            return p;
        }

        int changeHeading(int p, int heading) {
            if (!isPing(p)) {
                return BAD;
            }
            int before = headings[p];
            headings[p] = heading;
            return before;
        }

        int headingOf(int p) {
            return isPing(p) ? headings[p] : 0;
        }

        int xOf(int p) {
            return isPing(p) ? xs[p] : 0;
        }

        int yOf(int p) {
            return isPing(p) ? ys[p] : 0;
        }

        int depthOf(int p) {
            return isPing(p) ? depths[p] : 0;
        }

        long stepX(int p) {
            return xOf(p + 1) - xOf(p);
        }

        long stepY(int p) {
            return yOf(p + 1) - yOf(p);
        }

        boolean areNear(int p, int q, int by) {
            return Math.abs(xOf(q) - xOf(p)) <= by && Math.abs(yOf(q) - yOf(p)) <= by;
        }
    }

    /** What four BEAMS answer, or three of them. */
    private static final class Beams {
        private boolean answered = false;
        private boolean three = false;
        private int along = 0;
        private int across = 0;
        private int odd = 0;

        void take(int a, int b, int c, int d) {
            int missing = asNumber(isNone(a)) + asNumber(isNone(b)) + asNumber(isNone(c)) + asNumber(isNone(d));
            answered = missing <= 1;
            three = missing == 1;
            if (!answered) {
                return;
            }
            int first = isNone(a) ? c + d - b : a;
            int second = isNone(b) ? c + d - a : b;
            int third = isNone(c) ? a + b - d : c;
            int fourth = isNone(d) ? a + b - c : d;
            along = first - second;
            across = third - fourth;
            odd = first + second - third - fourth;
        }

        private static boolean isNone(int v) {
            return v <= LOWEST_NONE || v > MOST_READING;
        }
    }

    /**
     * A PACE, or a sum of PACES. What THE SKEW turns (turned by the HEADING
     * already) stands apart from what it does not: turns may be done in either
     * order, and on a sum as on its parts, so askew can lay every TURN on one sum.
     */
    private static final class Drift {
        private long swungX = 0;
        private long swungY = 0;
        private long heldX = 0;
        private long heldY = 0;

        void rest() {
            swungX = 0;
            swungY = 0;
            heldX = 0;
            heldY = 0;
        }

        void swing(int along, int across, int heading) {
            swungX = xTurned(along, across, heading);
            swungY = yTurned(along, across, heading);
        }

        void hold(long x, long y) {
            heldX = x;
            heldY = y;
        }

        void add(Drift other) {
            swungX += other.swungX;
            swungY += other.swungY;
            heldX += other.heldX;
            heldY += other.heldY;
        }

        void subtract(Drift other) {
            swungX -= other.swungX;
            swungY -= other.swungY;
            heldX -= other.heldX;
            heldY -= other.heldY;
        }

        void multiply(long by) {
            swungX *= by;
            swungY *= by;
            heldX *= by;
            heldY *= by;
        }

        long east(int skewTurn) {
            return xTurned(swungX, swungY, skewTurn) + heldX;
        }

        long north(int skewTurn) {
            return yTurned(swungX, swungY, skewTurn) + heldY;
        }

        long part(int skewTurn, int what) {
            return what == 0 ? east(skewTurn) : north(skewTurn);
        }
    }
}
