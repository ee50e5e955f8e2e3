import java.util.ArrayList;
import java.util.List;

/**
 * 'They change nothing.' (Terms, of refusals), and of FINDINGS 'they change nothing
 * but count() 5' (Terms 1): every refusal of every promise, told with the promise's
 * sentence that names it; and that a call that only asks changes nothing at all.
 * Each call is made on one of two sounders that were made alike; afterwards all
 * that can be asked of the one is asked of the other, and must be answered alike.
 * No sounder is used for more than 512 calls.
 */
public final class LayerSounderRefusals {
    private static final int LEAST = Integer.MIN_VALUE, MOST = Integer.MAX_VALUE;
    private static final int BAD = -2, NOT = -3, FULL = -4;
    private static final int NULL = -11, INDEX = -12, CAST = -13, STORE = -14, SIZE = -15;
    private static final long BAD_LONG = Long.MIN_VALUE + 2, NOT_LONG = Long.MIN_VALUE + 3;

    /** What the REELS of a busy sounder are: FORM, number of items; REEL 7 is LOST. */
    private static final int[] FORMS = {2, 1, 0, 2, 2, 0, 1, 0};
    private static final int[] SIZES = {8, 8, 8, 200, 3, 0, 3, 0};
    private static final int LOST = 7, EMPTY = 5;

    private static int wrong = 0;
    private static String told = "";

    public static void main(String[] args) {
        reels();
        copies();
        pings();
        full();
        laws();
        beams();
        boxes();
        questions();
        System.out.println(wrong == 0 ? "all refusals change nothing" : wrong + " answers are not as due");
        if (wrong != 0) {
            System.exit(1);
        }
    }

    // ---- what the tests are made of

    private interface Call {
        long on(LayerSounder x);
    }

    private interface Maker {
        LayerSounder make(int finding);
    }

    private static void sentence(String part, String words) {
        told = part + " '" + words + "'";
    }

    private static void due(String call, long got, long want) {
        if (got != want) {
            wrong++;
            System.out.println(told + ": " + call + " answered " + got + ", due is " + want);
        }
    }

    /** Nothing is as at first: REELS of each kind, four PINGS of two CELLS, all laws told, a FINDING made. */
    private static LayerSounder busy(int finding) {
        LayerSounder x = new LayerSounder();
        x.cells(2);
        for (int r = 0; r < LOST; r++) {
            x.reel(r, FORMS[r], SIZES[r]);
            for (int i = 0; i < Math.min(SIZES[r], 8); i++) {
                x.put(r, FORMS[r], i, 10 * r + i * i);
            }
        }
        x.put(0, 2, 1, 20001);
        x.put(3, 2, 3, 20000);
        x.put(2, 0, 4, -128);
        x.put(3, 2, 4, -128);
        x.put(3, 2, 199, 77);
        x.ping(3, 1, 2, 3);
        x.ping(14, -5, 6, 3);
        x.ping(35, 1000000, -1000000, 2);
        x.ping(9, 4, 4, 16);
        x.motion(1);
        x.skew(7);
        x.laws(1, false, 500);
        make(x, finding);
        return x;
    }

    private static LayerSounder crowded(int finding) {
        LayerSounder x = busy(finding);
        for (int p = 4; p < 40; p++) {
            x.ping(p % 36, p, -p, p % 17);
        }
        return x;
    }

    private static LayerSounder bare(int finding) {
        LayerSounder x = new LayerSounder();
        make(x, finding);
        return x;
    }

    /** Makes a FINDING the latest one: 1 or 5. */
    private static void make(LayerSounder x, int finding) {
        if (finding == 1) {
            x.lose(LOST);
        } else {
            x.reel(0, 0, -1);
        }
    }

    /** All that can be asked; what is LOST by it is asked last. */
    private static List<Long> picture(LayerSounder x) {
        List<Long> all = new ArrayList<>();
        for (int what = 0; what < 8; what++) {
            all.add((long) x.count(what));
        }
        for (int how = 2; how >= 0; how--) {
            all.add(x.digest());
            all.add((long) x.motion(how));
        }
        all.add(x.digest());
        for (int r = 0; r < 8; r++) {
            for (int i = 0; i <= SIZES[r]; i++) {
                all.add((long) x.get(r, FORMS[r], i));
            }
            all.add((long) x.count(5));
            all.add((long) x.lose(r));
        }
        return all;
    }

    private static void alike(String call, LayerSounder asked, LayerSounder left, int finding) {
        List<Long> got = picture(asked);
        List<Long> want = picture(left);
        want.set(5, (long) finding);
        for (int k = 0; k < want.size(); k++) {
            due("'They change nothing.' After " + call + " question " + k, got.get(k), want.get(k));
        }
    }

    /** The call is refused, and is no FINDING: count() 5 stays as well. */
    private static void refused(Maker maker, String call, long want, Call f) {
        for (int before : new int[] {1, 5}) {
            LayerSounder asked = maker.make(before);
            due(call, f.on(asked), want);
            alike(call, asked, maker.make(before), before);
        }
    }

    private static void bad(String call, Call f) {
        refused(LayerSounderRefusals::busy, call, BAD, f);
    }

    private static void badLong(String call, Call f) {
        refused(LayerSounderRefusals::busy, call, BAD_LONG, f);
    }

    private static void least(String call, Call f) {
        refused(LayerSounderRefusals::busy, call, LEAST, f);
    }

    private static void finds(String call, int answer, int finding, Call f) {
        for (Maker maker : new Maker[] {LayerSounderRefusals::busy, LayerSounderRefusals::crowded}) {
            int before = finding == 5 ? 1 : 5;
            LayerSounder asked = maker.make(before);
            due(call, f.on(asked), answer);
            alike(call, asked, maker.make(before), finding);
        }
    }

    private static void found(String call, int answer, Call f) {
        finds(call, answer, -10 - answer, f);
    }

    /** The call is answered, and changes nothing. */
    private static void asks(String call, Call f) {
        for (Maker maker : new Maker[] {LayerSounderRefusals::busy, LayerSounderRefusals::bare}) {
            LayerSounder asked = maker.make(1);
            long first = f.on(asked);
            due(call + " once more", f.on(asked), first);
            alike(call, asked, maker.make(1), 1);
        }
    }

    // ---- reels

    private static void reels() {
        sentence("Promise 2", "BAD: REEL, FORM, above 200; SIZE.");
        for (int v : new int[] {-1, 8, LEAST, MOST}) {
            bad("reel(" + v + ", 0, 1)", x -> x.reel(v, 0, 1));
            bad("reel(" + v + ", 0, -1)", x -> x.reel(v, 0, -1));
        }
        for (int v : new int[] {-1, 3, LEAST, MOST}) {
            bad("reel(0, " + v + ", 1)", x -> x.reel(0, v, 1));
            bad("reel(0, " + v + ", -1)", x -> x.reel(0, v, -1));
        }
        bad("reel(3, 2, 201)", x -> x.reel(3, 2, 201));
        bad("reel(3, 0, most)", x -> x.reel(3, 0, MOST));
        for (int v : new int[] {-1, LEAST}) {
            found("reel(3, 2, " + v + ")", SIZE, x -> x.reel(3, 2, v));
            found("reel(0, 0, " + v + "), of another FORM", SIZE, x -> x.reel(0, 0, v));
            found("reel(7, 0, " + v + "), LOST", SIZE, x -> x.reel(LOST, 0, v));
            found("reel(5, 0, " + v + "), empty", SIZE, x -> x.reel(EMPTY, 0, v));
        }
        sentence("Promise 3", "BAD; NULL.");
        for (int v : new int[] {-1, 8, LEAST, MOST}) {
            bad("lose(" + v + ")", x -> x.lose(v));
        }
        found("lose(7)", NULL, x -> x.lose(LOST));
        puts();
        gets();
    }

    private static void puts() {
        sentence("Promise 4", "BAD; NULL; CAST; INDEX.");
        for (int v : new int[] {-1, 8, LEAST, MOST}) {
            bad("put(" + v + ", 2, 0, 99)", x -> x.put(v, 2, 0, 99));
        }
        for (int v : new int[] {-1, 3, LEAST, MOST}) {
            bad("put(0, " + v + ", 0, 99)", x -> x.put(0, v, 0, 99));
            bad("put(7, " + v + ", 0, 99)", x -> x.put(LOST, v, 0, 99));
        }
        found("put(7, 0, 0, 99)", NULL, x -> x.put(LOST, 0, 0, 99));
        found("put(7, 2, 900, 99)", NULL, x -> x.put(LOST, 2, 900, 99));
        found("put(0, 0, 0, 99)", CAST, x -> x.put(0, 0, 0, 99));
        found("put(1, 2, 7, 99)", CAST, x -> x.put(1, 2, 7, 99));
        found("put(2, 1, 8, 99)", CAST, x -> x.put(2, 1, 8, 99));
        for (int v : new int[] {-1, 8, LEAST, MOST}) {
            found("put(0, 2, " + v + ", 99)", INDEX, x -> x.put(0, 2, v, 99));
            found("put(2, 0, " + v + ", 99)", INDEX, x -> x.put(2, 0, v, 99));
        }
        found("put(3, 2, 200, 99)", INDEX, x -> x.put(3, 2, 200, 99));
        found("put(5, 0, 0, 99)", INDEX, x -> x.put(EMPTY, 0, 0, 99));
    }

    private static void gets() {
        sentence("Promise 5", "BAD: the least int; so are NULL, CAST, INDEX (count() 5 tells).");
        for (int v : new int[] {-1, 8, LEAST, MOST}) {
            least("get(" + v + ", 2, 0)", x -> x.get(v, 2, 0));
            finds("get(0, 2, " + v + ")", LEAST, 2, x -> x.get(0, 2, v));
        }
        for (int v : new int[] {-1, 3, LEAST, MOST}) {
            least("get(0, " + v + ", 0)", x -> x.get(0, v, 0));
            least("get(7, " + v + ", 0)", x -> x.get(LOST, v, 0));
        }
        finds("get(7, 0, 0)", LEAST, 1, x -> x.get(LOST, 0, 0));
        finds("get(7, 2, 900)", LEAST, 1, x -> x.get(LOST, 2, 900));
        finds("get(0, 1, 0)", LEAST, 3, x -> x.get(0, 1, 0));
        finds("get(2, 2, 900)", LEAST, 3, x -> x.get(2, 2, 900));
        finds("get(3, 2, 200)", LEAST, 2, x -> x.get(3, 2, 200));
        finds("get(5, 0, 0)", LEAST, 2, x -> x.get(EMPTY, 0, 0));
    }

    private static void copies() {
        sentence("Promise 6", "BAD: the REELS; NULL: r, q; STORE; INDEX: below 0, not so many.");
        for (int v : new int[] {-1, 8, LEAST, MOST}) {
            bad("copy(" + v + ", 0, 0, 1, 2)", x -> x.copy(v, 0, 0, 1, 2));
            bad("copy(0, 0, " + v + ", 1, 2)", x -> x.copy(0, 0, v, 1, 2));
            bad("copy(7, 0, " + v + ", 1, 2)", x -> x.copy(LOST, 0, v, 1, 2));
            bad("copy(" + v + ", 0, 7, 1, 2)", x -> x.copy(v, 0, LOST, 1, 2));
        }
        found("copy(7, 0, 0, 1, 2)", NULL, x -> x.copy(LOST, 0, 0, 1, 2));
        found("copy(0, 0, 7, 1, 2)", NULL, x -> x.copy(0, 0, LOST, 1, 2));
        found("copy(0, 0, 7, -1, 900)", NULL, x -> x.copy(0, 0, LOST, -1, 900));
        found("copy(0, 0, 1, 1, 2)", STORE, x -> x.copy(0, 0, 1, 1, 2));
        found("copy(1, 0, 2, 1, 2)", STORE, x -> x.copy(1, 0, 2, 1, 2));
        found("copy(2, 0, 0, 1, 900)", STORE, x -> x.copy(2, 0, 0, 1, 900));
        // REEL 0 has 8 items, REEL 3 has 200, both of FORM 2: what would still fit must not come either.
        found("copy(0, 1, 3, 0, 8)", INDEX, x -> x.copy(0, 1, 3, 0, 8));
        found("copy(3, 0, 0, 0, 9)", INDEX, x -> x.copy(3, 0, 0, 0, 9));
        found("copy(3, 0, 0, 1, 8)", INDEX, x -> x.copy(3, 0, 0, 1, 8));
        found("copy(3, 193, 0, 0, 8)", INDEX, x -> x.copy(3, 193, 0, 0, 8));
        found("copy(0, 0, 0, 1, 8)", INDEX, x -> x.copy(0, 0, 0, 1, 8));
        found("copy(0, 9, 3, 0, 0)", INDEX, x -> x.copy(0, 9, 3, 0, 0));
        for (int v : new int[] {-1, LEAST, MOST}) {
            found("copy(0, " + v + ", 3, 0, 2)", INDEX, x -> x.copy(0, v, 3, 0, 2));
            found("copy(0, 0, 3, " + v + ", 2)", INDEX, x -> x.copy(0, 0, 3, v, 2));
            found("copy(0, 0, 3, 0, " + v + ")", INDEX, x -> x.copy(0, 0, 3, 0, v));
        }
    }

    // ---- pings

    private static void pings() {
        sentence("Promise 7", "BAD; NOT: there are PINGS.");
        for (int v : new int[] {0, 17, -1, LEAST, MOST}) {
            bad("cells(" + v + ")", x -> x.cells(v));
            refused(LayerSounderRefusals::bare, "cells(" + v + ") with no PINGS", BAD, x -> x.cells(v));
        }
        for (int v : new int[] {1, 2, 16}) {
            refused(LayerSounderRefusals::busy, "cells(" + v + ")", NOT, x -> x.cells(v));
        }
        sentence("Promise 8", "BAD; FULL.");
        for (int v : new int[] {-1, 36, LEAST, MOST}) {
            bad("ping(" + v + ", 0, 0, 0)", x -> x.ping(v, 0, 0, 0));
        }
        for (int v : new int[] {-1000001, 1000001, LEAST, MOST}) {
            bad("ping(0, " + v + ", 0, 0)", x -> x.ping(0, v, 0, 0));
            bad("ping(0, 0, " + v + ", 0)", x -> x.ping(0, 0, v, 0));
        }
        for (int v : new int[] {-1, 17, LEAST, MOST}) {
            bad("ping(0, 0, 0, " + v + ")", x -> x.ping(0, 0, 0, v));
        }
        sentence("Promise 9", "BAD.");
        for (int v : new int[] {-1, 4, 40, LEAST, MOST}) {
            bad("mend(" + v + ", 5)", x -> x.mend(v, 5));
        }
        for (int v : new int[] {-1, 36, LEAST, MOST}) {
            bad("mend(0, " + v + ")", x -> x.mend(0, v));
        }
        sentence("Promise 11", "BAD: the least int.");
        for (int v : new int[] {-1, 4, 40, LEAST, MOST}) {
            least("about(" + v + ", 4)", x -> x.about(v, 4));
        }
        for (int v : new int[] {-1, 5, LEAST, MOST}) {
            least("about(0, " + v + ")", x -> x.about(0, v));
        }
        sentence("Promise 12", "BAD; NOT: it has none.");
        for (int v : new int[] {-1, 4, 40, LEAST, MOST}) {
            badLong("own(" + v + ", 0)", x -> x.own(v, 0));
        }
        for (int v : new int[] {-1, 2, LEAST, MOST}) {
            badLong("own(0, " + v + ")", x -> x.own(0, v));
        }
        refused(LayerSounderRefusals::busy, "own(0, 0)", NOT_LONG, x -> x.own(0, 0));
    }

    private static void full() {
        sentence("Promise 8", "BAD; FULL.");
        Maker crowded = LayerSounderRefusals::crowded;
        refused(crowded, "ping(5, 6, 7, 8), the 41st", FULL, x -> x.ping(5, 6, 7, 8));
        refused(crowded, "ping(36, 6, 7, 8), the 41st", BAD, x -> x.ping(36, 6, 7, 8));
        refused(crowded, "mend(40, 8)", BAD, x -> x.mend(40, 8));
        refused(crowded, "cells(2)", NOT, x -> x.cells(2));
        refused(crowded, "cells(17)", BAD, x -> x.cells(17));
    }

    // ---- laws

    private static void laws() {
        sentence("Promise 13", "BAD.");
        for (int v : new int[] {-1, 3, LEAST, MOST}) {
            bad("motion(" + v + ")", x -> x.motion(v));
        }
        sentence("Promise 14", "BAD.");
        for (int v : new int[] {-1, 36, LEAST, MOST}) {
            bad("skew(" + v + ")", x -> x.skew(v));
        }
        sentence("Promise 15", "BAD.");
        for (int v : new int[] {-1, 17, LEAST, MOST}) {
            bad("laws(" + v + ", true, 9)", x -> x.laws(v, true, 9));
        }
        for (int v : new int[] {-1, 100001, LEAST, MOST}) {
            bad("laws(9, true, " + v + ")", x -> x.laws(9, true, v));
        }
    }

    // ---- beams

    private static void beams() {
        sentence("Promise 16", "BAD: what; NOT: no answer: the least int each.");
        for (int v : new int[] {-1, 4, LEAST, MOST}) {
            least("answer(1, 2, 3, 4, " + v + ")", x -> x.answer(1, 2, 3, 4, v));
        }
        least("answer(-128, 20001, 3, 4, 0)", x -> x.answer(-128, 20001, 3, 4, 0));
        sentence("Promise 17", "BAD: the least int.");
        for (int v : new int[] {-20001, 20001, LEAST, MOST}) {
            least("beam(" + v + ", 0, 0, 0, 0)", x -> x.beam(v, 0, 0, 0, 0));
            least("beam(0, " + v + ", 0, 0, 0)", x -> x.beam(0, v, 0, 0, 0));
            least("beam(0, 0, " + v + ", 0, 0)", x -> x.beam(0, 0, v, 0, 0));
        }
        for (int v : new int[] {-1000001, 1000001, LEAST, MOST}) {
            least("beam(0, 0, 0, " + v + ", 0)", x -> x.beam(0, 0, 0, v, 0));
        }
        for (int v : new int[] {-1, 4, LEAST, MOST}) {
            least("beam(1, 2, 3, 4, " + v + ")", x -> x.beam(1, 2, 3, 4, v));
        }
        sentence("Promise 18", "BAD: the least int.");
        for (int v : new int[] {-1000001, 1000001, LEAST, MOST}) {
            least("turned(" + v + ", 0, 0, 0)", x -> x.turned(v, 0, 0, 0));
            least("turned(0, " + v + ", 0, 0)", x -> x.turned(0, v, 0, 0));
        }
        least("turned(0, 0, 36, 0)", x -> x.turned(0, 0, 36, 0));
        least("turned(0, 0, -1, 0)", x -> x.turned(0, 0, -1, 0));
        least("turned(0, 0, 0, 2)", x -> x.turned(0, 0, 0, 2));
        least("turned(0, 0, 0, -1)", x -> x.turned(0, 0, 0, -1));
        cellsRefused();
    }

    private static void cellsRefused() {
        sentence("Promise 19", "The FATE of a CELL. BAD.");
        for (int v : new int[] {-1, 4, 40, LEAST, MOST}) {
            bad("fate(" + v + ", 0)", x -> x.fate(v, 0));
        }
        for (int v : new int[] {-1, 2, 16, LEAST, MOST}) {
            bad("fate(0, " + v + ")", x -> x.fate(0, v));
        }
        sentence("Promise 20", "BAD; NOT: its PING has no OWN, or there is no answer.");
        for (int v : new int[] {-1, 4, 40, LEAST, MOST}) {
            badLong("pace(" + v + ", 0, 0)", x -> x.pace(v, 0, 0));
        }
        for (int v : new int[] {-1, 2, 16, LEAST, MOST}) {
            badLong("pace(0, " + v + ", 0)", x -> x.pace(0, v, 0));
            badLong("pace(0, 0, " + v + ")", x -> x.pace(0, 0, v));
        }
        refused(LayerSounderRefusals::busy, "pace(0, 0, 0)", NOT_LONG, x -> x.pace(0, 0, 0));
        sentence("Promise 21", "BAD.");
        for (int v : new int[] {-1, 7, LEAST, MOST}) {
            bad("fates(" + v + ")", x -> x.fates(v));
        }
    }

    // ---- boxes, flows

    private static void boxes() {
        int[][] boxes = {{-1, 1, 0, 1, 1}, {0, 4, 0, 1, 1}, {2, 1, 0, 1, 1}, {0, 1, -1, 1, 1}, {0, 1, 0, 2, 1}, {0, 1, 1, 0, 1},
            {0, 1, 0, 1, -1}, {0, 1, 0, 1, 3}, {LEAST, MOST, LEAST, MOST, 1}};
        for (int[] b : boxes) {
            String of = "(" + b[0] + ", " + b[1] + ", " + b[2] + ", " + b[3] + ", " + b[4] + ")";
            sentence("Promise 22", "BAD: p to q, c to d not such, what.");
            badLong("box" + of, x -> x.box(b[0], b[1], b[2], b[3], b[4]));
            sentence("Promise 23", "BAD; NOT: there are none.");
            badLong("mean" + of, x -> x.mean(b[0], b[1], b[2], b[3], b[4]));
        }
        badLong("mean(0, 1, 0, 1, 0)", x -> x.mean(0, 1, 0, 1, 0));
        refused(LayerSounderRefusals::busy, "mean(0, 1, 0, 1, 1)", NOT_LONG, x -> x.mean(0, 1, 0, 1, 1));
        sentence("Promise 24", "THE FLOW over PINGS p to q with EDGES 0 or 1. BAD.");
        int[][] flows = {{0, 0, 0}, {3, 3, 1}, {1, 0, 0}, {-1, 1, 0}, {0, 4, 1}, {0, 1, -1}, {0, 1, 2}, {LEAST, MOST, 0}};
        for (int[] f : flows) {
            badLong("flow(" + f[0] + ", " + f[1] + ", " + f[2] + ")", x -> x.flow(f[0], f[1], f[2]));
        }
        sentence("Promise 25", "BAD: the PINGS; NOT: one of both has no GOOD CELL with the SKEW as it is.");
        int[][] spans = {{-1, 1, 2, 3}, {0, 4, 2, 3}, {1, 0, 2, 3}, {0, 1, -1, 3}, {0, 1, 2, 4}, {0, 1, 3, 2}, {LEAST, MOST, 0, 0}};
        for (int[] s : spans) {
            bad("askew(" + s[0] + ", " + s[1] + ", " + s[2] + ", " + s[3] + ")", x -> x.askew(s[0], s[1], s[2], s[3]));
        }
        refused(LayerSounderRefusals::busy, "askew(0, 1, 2, 3)", NOT, x -> x.askew(0, 1, 2, 3));
        sentence("Promise 26", "BAD.");
        for (int v : new int[] {-1, 4, LEAST, MOST}) {
            bad("closes(" + v + ", 9)", x -> x.closes(v, 9));
        }
        for (int v : new int[] {-1, 1000001, LEAST, MOST}) {
            bad("closes(0, " + v + ")", x -> x.closes(0, v));
        }
        sentence("Promise 27", "7 whether THREES are taken (1, 0). BAD.");
        for (int v : new int[] {-1, 8, LEAST, MOST}) {
            bad("count(" + v + ")", x -> x.count(v));
        }
    }

    // ---- what only asks

    private static void questions() {
        sentence("Not promised", "Nothing is promised beyond the answers and state changes described above");
        for (int how = 0; how < 3; how++) {
            int by = how;
            Call all = x -> answersBy(x, by);
            asks("all questions, motion(" + how + ")", all);
        }
        LayerSounder x = busy(1);
        x.motion(0);
        sentence("Promise 25", "ASKEW: the TURN (THE SKEW stays).");
        due("askew(0, 3, 0, 3)", x.askew(0, 3, 0, 3), 0);
        due("THE SKEW stays", x.count(3), 7);
    }

    /** Asks all that changes nothing, and puts back how OWN is told. */
    private static long answersBy(LayerSounder x, int how) {
        int before = x.motion(how);
        long sum = x.get(0, 2, 0) == LEAST ? 0 : 1;
        x.lose(LOST);
        for (int p = 0; p < 4; p++) {
            sum = 31 * sum + x.about(p, 4) + x.own(p, 0) + x.fate(p, 1) + x.pace(p, 1, 1) + x.closes(p, 50);
        }
        for (int k = 0; k < 8; k++) {
            sum = 31 * sum + x.count(k) + x.fates(k) + x.answer(k, 20001, 5, 6, k) + x.beam(k, 2, 3, 4, k) + x.turned(k, 2, k, 1);
        }
        sum = 31 * sum + x.box(0, 3, 0, 1, 1) + x.mean(0, 3, 0, 1, 2) + x.flow(0, 3, 0) + x.flow(0, 3, 1);
        sum = 31 * sum + x.askew(0, 1, 2, 3) + x.askew(0, 2, 0, 3) + x.digest();
        x.motion(before);
        return sum;
    }
}
