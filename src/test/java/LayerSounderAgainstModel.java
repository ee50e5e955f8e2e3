/**
 * Runs of calls on a LayerSounder and on a second sounder that follows the
 * document word by word, without any of the program's short ways: REELS are real
 * rows, each CELL is worked out anew, and askew tries each TURN as THE SKEW.
 */
public final class LayerSounderAgainstModel {
    private static final int RUNS = 2000, MOST_TOLD = 20;
    /** An object is good for 512 calls; one pick makes up to three, and digest() is the last. */
    private static final int CALLS_PICKED = 512 - 4;

    private static int wrong = 0;
    private static int run = 0;
    private static int calls = 0;
    private static long seed = 20261116L;

    private static LayerSounder x;
    private static Model m;

    public static void main(String[] args) {
        for (run = 0; run < RUNS && wrong < MOST_TOLD; run++) {
            x = new LayerSounder();
            m = new Model();
            calls = 0;
            setUp();
            while (calls < CALLS_PICKED) {
                anyCall();
            }
            due("digest()", x.digest(), m.digest());
        }
        System.out.println(wrong == 0 ? "all runs are as the model's" : wrong + " answers are not as the model's");
        if (wrong != 0) {
            System.exit(1);
        }
    }

    private static void due(String call, long got, long want) {
        calls++;
        if (got != want) {
            wrong++;
            System.out.println("run " + run + ": " + call + " answered " + got + ", due is " + want);
        }
    }

    // ---- what is asked

    /** Numbers that are the same every time. */
    private static int any(int least, int most) {
        seed = seed * 6364136223846793005L + 1442695040888963407L;
        return least + (int) ((seed >>> 33) % (most - least + 1L));
    }

    private static boolean chance(int percent) {
        return any(0, 99) < percent;
    }

    /** Mostly within bounds, else just beside them or far off. */
    private static int within(int least, int most) {
        if (chance(95)) {
            return any(least, most);
        }
        int[] beside = {least - 1, most + 1, least, most, Integer.MIN_VALUE, Integer.MAX_VALUE};
        return beside[any(0, beside.length - 1)];
    }

    private static int aReading() {
        int kind = any(0, 19);
        if (kind == 0) {
            return any(-130, -126);
        }
        if (kind == 1) {
            return any(19998, 20002);
        }
        if (kind == 2) {
            return any(-127, 20000);
        }
        if (kind == 3) {
            return any(0, 1) == 0 ? Integer.MIN_VALUE : Integer.MAX_VALUE;
        }
        return any(-127, 400);
    }

    private static int aPlace() {
        return chance(70) ? any(-20, 20) : within(-1000000, 1000000);
    }

    private static int aPing() {
        return within(0, Math.max(0, m.number - 1));
    }

    private static int aCell() {
        return within(0, m.l - 1);
    }

    private static void setUp() {
        cells(any(1, chance(50) ? 3 : 16));
        for (int r = 0; r < 8; r++) {
            if (chance(90)) {
                int n = chance(50) ? 200 : any(0, 60);
                reel(r, chance(60) ? 2 : any(0, 2), n);
                int seeds = Math.min(n, any(5, 20));
                for (int i = 0; i < seeds; i++) {
                    put(r, m.formOf(r), i, aReading());
                }
                repeat(r, seeds, n);
            }
        }
        int pings = any(0, chance(20) ? 41 : 8);
        for (int p = 0; p < pings; p++) {
            ping(any(0, 35), aPlace(), aPlace(), any(0, 16));
        }
    }

    /** Fills a REEL with what stands at its head, so that few calls make many readings. */
    private static void repeat(int r, int first, int n) {
        for (int have = Math.max(first, 1); have < n; have *= 2) {
            copy(r, 0, r, have, Math.min(have, n - have));
        }
    }

    private static void anyCall() {
        switch (any(0, 5)) {
            case 0: reelCall(); break;
            case 1: pingCall(); break;
            case 2: lawCall(); break;
            case 3: beamCall(); break;
            case 4: cellCall(); break;
            default: boxCall(); break;
        }
    }

    private static void reelCall() {
        int r = within(0, 7);
        int form = chance(90) ? m.formOf(r) : within(0, 2);
        int size = m.sizeOf(r);
        switch (any(0, 20)) {
            case 0: reel(r, within(0, 2), within(0, 200)); break;
            case 1: lose(r); break;
            case 2: case 3: case 4: case 5: case 6: get(r, form, within(0, size)); break;
            case 7: case 8: case 9: case 10:
                copy(r, within(0, size), within(0, 7), within(0, size), chance(50) ? any(0, 3) : within(0, size)); break;
            default: put(r, form, within(0, Math.min(size, 20)), aReading()); break;
        }
    }

    private static void pingCall() {
        int p = aPing();
        switch (any(0, 30)) {
            case 0: due("clear()", x.clear(), m.clear()); break;
            case 1: cells(within(1, 16)); break;
            case 2: case 3: case 4: case 5: case 6: case 7: case 8: case 9:
                ping(within(0, 35), aPlace(), aPlace(), within(0, 16)); break;
            case 10: case 11: case 12: case 13: case 14:
                int heading = within(0, 35);
                due("mend(" + p + ", " + heading + ")", x.mend(p, heading), m.mend(p, heading)); break;
            default:
                int what = within(0, 4);
                due("about(" + p + ", " + what + ")", x.about(p, what), m.about(p, what));
                due("own(" + p + ", " + what + ")", x.own(p, what), m.own(p, what)); break;
        }
    }

    private static void lawCall() {
        int what = any(0, 5);
        if (what == 0) {
            int how = within(0, 2);
            due("motion(" + how + ")", x.motion(how), m.motion(how));
        } else if (what == 1) {
            int turn = within(0, 35);
            due("skew(" + turn + ")", x.skew(turn), m.skew(turn));
        } else if (what == 2) {
            int edge = chance(80) ? any(0, 2) : within(0, 16);
            boolean threes = chance(70);
            int bound = chance(60) ? any(0, 1000) : within(0, 100000);
            due("laws(" + edge + ", " + threes + ", " + bound + ")", x.laws(edge, threes, bound), m.laws(edge, threes, bound));
        } else {
            int of = within(0, 7);
            due("count(" + of + ")", x.count(of), m.count(of));
        }
    }

    private static void beamCall() {
        int a = aReading();
        int b = aReading();
        int c = aReading();
        int d = aReading();
        int what = within(0, 3);
        due("answer(" + a + ", " + b + ", " + c + ", " + d + ", " + what + ")",
            x.answer(a, b, c, d, what), m.answer(a, b, c, d, what));
        a = within(-20000, 20000);
        b = within(-20000, 20000);
        c = within(-20000, 20000);
        d = within(-1000000, 1000000);
        due("beam(" + a + ", " + b + ", " + c + ", " + d + ", " + what + ")", x.beam(a, b, c, d, what), m.beam(a, b, c, d, what));
        a = aPlace();
        b = aPlace();
        c = within(0, 35);
        what = within(0, 1);
        due("turned(" + a + ", " + b + ", " + c + ", " + what + ")", x.turned(a, b, c, what), m.turned(a, b, c, what));
    }

    private static void cellCall() {
        int p = aPing();
        int c = aCell();
        int what = within(0, 1);
        int fate = within(0, 6);
        due("fate(" + p + ", " + c + ")", x.fate(p, c), m.fate(p, c));
        due("pace(" + p + ", " + c + ", " + what + ")", x.pace(p, c, what), m.pace(p, c, what));
        due("fates(" + fate + ")", x.fates(fate), m.fates(fate));
    }

    private static void boxCall() {
        int p = aPing();
        int q = aPing();
        int c = aCell();
        int d = aCell();
        int what = within(0, 2);
        String of = "(" + p + ", " + q + ", " + c + ", " + d + ", " + what + ")";
        switch (any(0, 5)) {
            case 0: due("box" + of, x.box(p, q, c, d, what), m.box(p, q, c, d, what)); break;
            case 1: due("mean" + of, x.mean(p, q, c, d, what), m.mean(p, q, c, d, what)); break;
            case 2:
                int edges = within(0, 1);
                due("flow(" + p + ", " + q + ", " + edges + ")", x.flow(p, q, edges), m.flow(p, q, edges)); break;
            case 3:
                int r = aPing();
                int s = chance(50) ? r : aPing();
                due("askew(" + p + ", " + q + ", " + r + ", " + s + ")", x.askew(p, q, r, s), m.askew(p, q, r, s)); break;
            case 4:
                int by = chance(60) ? any(0, 30) : within(0, 1000000);
                due("closes(" + p + ", " + by + ")", x.closes(p, by), m.closes(p, by)); break;
            default: due("digest()", x.digest(), m.digest()); break;
        }
    }

    private static void cells(int l) {
        due("cells(" + l + ")", x.cells(l), m.cells(l));
    }

    private static void reel(int r, int form, int n) {
        due("reel(" + r + ", " + form + ", " + n + ")", x.reel(r, form, n), m.reel(r, form, n));
    }

    private static void lose(int r) {
        due("lose(" + r + ")", x.lose(r), m.lose(r));
    }

    private static void put(int r, int form, int i, int v) {
        due("put(" + r + ", " + form + ", " + i + ", " + v + ")", x.put(r, form, i, v), m.put(r, form, i, v));
    }

    private static void get(int r, int form, int i) {
        due("get(" + r + ", " + form + ", " + i + ")", x.get(r, form, i), m.get(r, form, i));
    }

    private static void copy(int r, int i, int q, int j, int n) {
        due("copy(" + r + ", " + i + ", " + q + ", " + j + ", " + n + ")", x.copy(r, i, q, j, n), m.copy(r, i, q, j, n));
    }

    private static void ping(int heading, int px, int py, int depth) {
        due("ping(" + heading + ", " + px + ", " + py + ", " + depth + ")",
            x.ping(heading, px, py, depth), m.ping(heading, px, py, depth));
    }

    /** The second sounder. REELS are real rows, and FINDINGS are what the machine itself finds in them. */
    private static final class Model {
        private static final int LEAST = Integer.MIN_VALUE;
        private static final int[][] FIRST_TURNS =
            {{65, 0}, {63, 16}, {60, 25}, {56, 33}, {52, 39}, {39, 52}, {33, 56}, {25, 60}, {16, 63}};

        private final Object[] reels = new Object[8];
        private final int[][] pings = new int[40][];
        private int number = 0, l = 4, how = 0, skew = 0, edge = 0, bound = 1000, finding = 0;
        private boolean threes = true;

        private static boolean in(int v, int least, int most) {
            return least <= v && v <= most;
        }

        private static long refusal(int x) {
            return Long.MIN_VALUE + x;
        }

        // ---- reels

        int sizeOf(int r) {
            return !in(r, 0, 7) || reels[r] == null ? 0 : java.lang.reflect.Array.getLength(reels[r]);
        }

        int formOf(int r) {
            return !in(r, 0, 7) || reels[r] == null || reels[r] instanceof byte[] ? 0 : reels[r] instanceof short[] ? 1 : 2;
        }

        private int found(RuntimeException e) {
            if (e instanceof NullPointerException) {
                finding = 1;
            } else if (e instanceof IndexOutOfBoundsException) {
                finding = 2;
            } else if (e instanceof ClassCastException) {
                finding = 3;
            } else if (e instanceof ArrayStoreException) {
                finding = 4;
            } else if (e instanceof NegativeArraySizeException) {
                finding = 5;
            } else {
                throw e;
            }
            return -10 - finding;
        }

        int reel(int r, int form, int n) {
            if (!in(r, 0, 7) || !in(form, 0, 2) || n > 200) {
                return -2;
            }
            try {
                reels[r] = form == 0 ? new byte[n] : form == 1 ? new short[n] : (Object) new int[n];
                return n;
            } catch (RuntimeException e) {
                return found(e);
            }
        }

        int lose(int r) {
            if (!in(r, 0, 7)) {
                return -2;
            }
            try {
                int n = java.lang.reflect.Array.getLength(reels[r]);
                reels[r] = null;
                return n;
            } catch (RuntimeException e) {
                return found(e);
            }
        }

        int put(int r, int form, int i, int v) {
            if (!in(r, 0, 7) || !in(form, 0, 2)) {
                return -2;
            }
            try {
                if (form == 0) {
                    ((byte[]) reels[r])[i] = (byte) v;
                } else if (form == 1) {
                    ((short[]) reels[r])[i] = (short) v;
                } else {
                    ((int[]) reels[r])[i] = v;
                }
                return 1;
            } catch (RuntimeException e) {
                return found(e);
            }
        }

        int get(int r, int form, int i) {
            if (!in(r, 0, 7) || !in(form, 0, 2)) {
                return LEAST;
            }
            try {
                return form == 0 ? ((byte[]) reels[r])[i] : form == 1 ? ((short[]) reels[r])[i] : ((int[]) reels[r])[i];
            } catch (RuntimeException e) {
                found(e);
                return LEAST;
            }
        }

        int copy(int r, int i, int q, int j, int n) {
            if (!in(r, 0, 7) || !in(q, 0, 7)) {
                return -2;
            }
            try {
                System.arraycopy(reels[r], i, reels[q], j, n);
                return 1;
            } catch (RuntimeException e) {
                return found(e);
            }
        }

        // ---- pings

        int cells(int n) {
            if (!in(n, 1, 16)) {
                return -2;
            }
            if (number > 0) {
                return -3;
            }
            int was = l;
            l = n;
            return was;
        }

        int ping(int heading, int px, int py, int depth) {
            if (!in(heading, 0, 35) || !in(px, -1000000, 1000000) || !in(py, -1000000, 1000000) || !in(depth, 0, 16)) {
                return -2;
            }
            if (number == 40) {
                return -4;
            }
            pings[number] = new int[] {heading, px, py, depth};
            return number++;
        }

        int mend(int p, int heading) {
            if (!in(p, 0, number - 1) || !in(heading, 0, 35)) {
                return -2;
            }
            int was = pings[p][0];
            pings[p][0] = heading;
            return was;
        }

        int clear() {
            int was = number;
            number = 0;
            return was;
        }

        int about(int p, int what) {
            if (!in(p, 0, number - 1) || !in(what, 0, 4)) {
                return LEAST;
            }
            return what < 4 ? pings[p][what] : ownOf(p, skew) == null ? 0 : 1;
        }

        long own(int p, int what) {
            if (!in(p, 0, number - 1) || !in(what, 0, 1)) {
                return refusal(2);
            }
            long[] own = ownOf(p, skew);
            return own == null ? refusal(3) : own[what];
        }

        // ---- laws

        int motion(int h) {
            if (!in(h, 0, 2)) {
                return -2;
            }
            int was = how;
            how = h;
            return was;
        }

        int skew(int turn) {
            if (!in(turn, 0, 35)) {
                return -2;
            }
            int was = skew;
            skew = turn;
            return was;
        }

        int laws(int e, boolean t, int b) {
            if (!in(e, 0, 16) || !in(b, 0, 100000)) {
                return -2;
            }
            edge = e;
            threes = t;
            bound = b;
            return 1;
        }

        // ---- beams

        private static long[] turnedBy(long[] v, int turn) {
            long c = FIRST_TURNS[turn % 9][0];
            long s = FIRST_TURNS[turn % 9][1];
            for (int nines = turn / 9; nines > 0; nines--) {
                long was = c;
                c = -s;
                s = was;
            }
            return new long[] {c * v[0] - s * v[1], s * v[0] + c * v[1]};
        }

        private static boolean none(long v) {
            return v <= -128 || v > 20000;
        }

        /** ALONG, ACROSS, ODD, whether a THREE; null: no answer. */
        private static long[] answerOf(long[] four) {
            int gone = -1;
            for (int b = 0; b < 4; b++) {
                if (none(four[b])) {
                    if (gone >= 0) {
                        return null;
                    }
                    gone = b;
                }
            }
            long[] f = four.clone();
            if (gone >= 0) {
                f[gone] = 0;
                long odd = f[0] + f[1] - f[2] - f[3];
                f[gone] = gone < 2 ? -odd : odd;
            }
            return new long[] {f[0] - f[1], f[2] - f[3], f[0] + f[1] - f[2] - f[3], gone >= 0 ? 1 : 0};
        }

        int answer(int a, int b, int c, int d, int what) {
            long[] answer = answerOf(new long[] {a, b, c, d});
            return !in(what, 0, 3) || answer == null ? LEAST : (int) answer[what];
        }

        int beam(int along, int across, int odd, int sum, int b) {
            if (!in(along, -20000, 20000) || !in(across, -20000, 20000) || !in(odd, -20000, 20000)
                || !in(sum, -1000000, 1000000) || !in(b, 0, 3)) {
                return LEAST;
            }
            return new int[] {sum + odd + 2 * along, sum + odd - 2 * along, sum - odd + 2 * across, sum - odd - 2 * across}[b];
        }

        int turned(int px, int py, int turn, int what) {
            if (!in(px, -1000000, 1000000) || !in(py, -1000000, 1000000) || !in(turn, 0, 35) || !in(what, 0, 1)) {
                return LEAST;
            }
            return (int) turnedBy(new long[] {px, py}, turn)[what];
        }

        private long[] answerAt(int firstReel, int i) {
            long[] four = new long[4];
            for (int b = 0; b < 4; b++) {
                four[b] = i < sizeOf(firstReel + b) ? java.lang.reflect.Array.getLong(reels[firstReel + b], i) : -128;
            }
            return answerOf(four);
        }

        private long[] eastNorth(long[] answer, int p, int sk) {
            return turnedBy(turnedBy(answer, sk), pings[p][0]);
        }

        private long[] ownOf(int p, int sk) {
            if (how == 0) {
                return new long[] {0, 0};
            }
            if (how == 1) {
                long[] bottom = answerAt(4, p);
                return bottom == null ? null : eastNorth(bottom, p, sk);
            }
            if (p == number - 1) {
                return null;
            }
            return new long[] {4225L * (pings[p + 1][1] - pings[p][1]), 4225L * (pings[p + 1][2] - pings[p][2])};
        }

        private long[] paceOf(int p, int c, int sk) {
            long[] own = ownOf(p, sk);
            long[] answer = answerAt(0, l * p + c);
            if (own == null || answer == null) {
                return null;
            }
            long[] way = eastNorth(answer, p, sk);
            return new long[] {way[0] - own[0], way[1] - own[1]};
        }

        private int fateOf(int p, int c) {
            long[] a = answerAt(0, l * p + c);
            boolean[] fits = {
                ownOf(p, skew) == null,
                a == null,
                c + edge >= pings[p][3],
                a != null && a[3] == 1 && !threes,
                a != null && Math.abs(a[2]) > bound,
                a != null && (Math.abs(a[0]) > 20000 || Math.abs(a[1]) > 20000)
            };
            for (int f = 0; f < 6; f++) {
                if (fits[f]) {
                    return f + 1;
                }
            }
            return 0;
        }

        int fate(int p, int c) {
            return !in(p, 0, number - 1) || !in(c, 0, l - 1) ? -2 : fateOf(p, c);
        }

        long pace(int p, int c, int what) {
            if (!in(p, 0, number - 1) || !in(c, 0, l - 1) || !in(what, 0, 1)) {
                return refusal(2);
            }
            long[] pace = paceOf(p, c, skew);
            return pace == null ? refusal(3) : pace[what];
        }

        int fates(int fate) {
            if (!in(fate, 0, 6)) {
                return -2;
            }
            int many = 0;
            for (int i = 0; i < number * l; i++) {
                many += fateOf(i / l, i % l) == fate ? 1 : 0;
            }
            return many;
        }

        // ---- boxes, flows

        private long[] boxOf(int p, int q, int c, int d, int sk) {
            long[] sums = new long[3];
            for (int r = p; r <= q; r++) {
                for (int e = c; e <= d; e++) {
                    if (fateOf(r, e) == 0) {
                        long[] pace = paceOf(r, e, sk);
                        sums[0]++;
                        sums[1] += pace[0];
                        sums[2] += pace[1];
                    }
                }
            }
            return sums;
        }

        private boolean span(int p, int q) {
            return in(p, 0, number - 1) && in(q, p, number - 1);
        }

        private boolean boxed(int p, int q, int c, int d) {
            return span(p, q) && in(c, 0, l - 1) && in(d, c, l - 1);
        }

        long box(int p, int q, int c, int d, int what) {
            return !boxed(p, q, c, d) || !in(what, 0, 2) ? refusal(2) : boxOf(p, q, c, d, skew)[what];
        }

        long mean(int p, int q, int c, int d, int what) {
            if (!boxed(p, q, c, d) || !in(what, 1, 2)) {
                return refusal(2);
            }
            long[] sums = boxOf(p, q, c, d, skew);
            if (sums[0] == 0) {
                return refusal(3);
            }
            long mean = sums[what] / sums[0];
            return mean * sums[0] > sums[what] ? mean - 1 : mean;
        }

        long flow(int p, int q, int edges) {
            if (!span(p, q) || p == q || !in(edges, 0, 1)) {
                return refusal(2);
            }
            long sum = 0;
            for (int r = p; r < q; r++) {
                long u = pings[r + 1][1] - pings[r][1];
                long v = pings[r + 1][2] - pings[r][2];
                for (int c = 0; c < l; c++) {
                    int of = cellWhosePace(r, c, edges);
                    if (of >= 0) {
                        long[] pace = paceOf(r, of, skew);
                        sum += pace[0] * v - pace[1] * u;
                    }
                }
            }
            return sum;
        }

        private int cellWhosePace(int r, int c, int edges) {
            if (fateOf(r, c) == 0) {
                return c;
            }
            int first = -1;
            int last = -1;
            for (int e = 0; e < l; e++) {
                if (fateOf(r, e) == 0) {
                    first = first < 0 ? e : first;
                    last = e;
                }
            }
            if (edges == 0 || first < 0) {
                return -1;
            }
            return c < first ? first : c > last && c < pings[r][3] ? last : -1;
        }

        int askew(int p, int q, int r, int s) {
            if (!span(p, q) || !span(r, s)) {
                return -2;
            }
            int best = -3;
            long least = 0;
            for (int turn = 0; turn < 36; turn++) {
                long[] one = boxOf(p, q, 0, l - 1, turn);
                long[] two = boxOf(r, s, 0, l - 1, turn);
                if (one[0] == 0 || two[0] == 0) {
                    return -3;
                }
                long east = Math.abs(one[1] * two[0] - two[1] * one[0]);
                long north = Math.abs(one[2] * two[0] - two[2] * one[0]);
                long miss = Long.compareUnsigned(east, north) > 0 ? east : north;
                if (best < 0 || Long.compareUnsigned(miss, least) < 0) {
                    best = turn;
                    least = miss;
                }
            }
            return best;
        }

        int closes(int p, int by) {
            if (!in(p, 0, number - 1) || !in(by, 0, 1000000)) {
                return -2;
            }
            for (int q = p + 2; q < number; q++) {
                if (Math.abs(pings[q][1] - pings[p][1]) <= by && Math.abs(pings[q][2] - pings[p][2]) <= by) {
                    return q;
                }
            }
            return -1;
        }

        int count(int what) {
            int[] counts = {number, l, how, skew, edge, finding, bound, threes ? 1 : 0};
            return in(what, 0, 7) ? counts[what] : -2;
        }

        long digest() {
            long h = 17;
            for (int what : new int[] {0, 1, 2, 3, 4, 6, 7}) {
                h = 31 * h + count(what);
            }
            for (int p = 0; p < number; p++) {
                for (int what = 0; what < 5; what++) {
                    h = 31 * h + about(p, what);
                }
                for (int c = 0; c < l; c++) {
                    h = 31 * h + fate(p, c);
                    if (fate(p, c) == 0) {
                        h = 31 * h + pace(p, c, 0);
                        h = 31 * h + pace(p, c, 1);
                    }
                }
            }
            return h;
        }
    }
}
