import java.math.BigInteger;

/**
 * The boundary cases that promises 1 to 28 name. A method is named after its
 * promise; each sentence in it is told with sentence(promise, its words), and what
 * follows is that sentence's test: the last value that is taken and the first that
 * is refused on each side, what is empty, what is full, what wraps around, and
 * which refusal is ahead. (That a refused call changes nothing is tested by
 * LayerSounderRefusals.) No object is used for more than 512 calls.
 */
public final class LayerSounderPromiseBounds {
    private static final int LEAST = Integer.MIN_VALUE, MOST = Integer.MAX_VALUE;
    private static final int NONE = -1, BAD = -2, NOT = -3, FULL = -4;
    private static final int NULL = -11, INDEX = -12, CAST = -13, STORE = -14, SIZE = -15;
    private static final long BAD_LONG = Long.MIN_VALUE + 2, NOT_LONG = Long.MIN_VALUE + 3;
    private static final int NO_READING = -128;
    private static final long TWICE_TURNED = 4225;

    private static int wrong = 0;
    private static String told = "";

    public static void main(String[] args) {
        promise1NewObject();
        promise2Reel();
        promise3Lose();
        promise4Put();
        promise5Get();
        promise6Copy();
        promise6CopyAsTheyWere();
        promise6CopyIndex();
        promise7Cells();
        promise8Ping();
        promise9Mend();
        promise10Clear();
        promise11About();
        promise12Own();
        promise13Motion();
        promise14Skew();
        promise15Laws();
        promise16Answer();
        promise17Beam();
        promise18Turned();
        promise19Fate();
        promise20Pace();
        promise21Fates();
        promise22Box();
        promise23Mean();
        promise24Flow();
        promise25Askew();
        promise26Closes();
        promise27Count();
        promise28Digest();
        System.out.println(wrong == 0 ? "all promises hold at their bounds" : wrong + " answers are not as due");
        if (wrong != 0) {
            System.exit(1);
        }
    }

    // ---- what the tests are made of

    private interface Call {
        long on(LayerSounder x, int v);
    }

    private static void sentence(int promise, String words) {
        told = "Promise " + promise + " '" + words + "'";
    }

    private static void due(String call, long got, long want) {
        if (got != want) {
            wrong++;
            System.out.println(told + ": " + call + " answered " + got + ", due is " + want);
        }
    }

    /** The last values that are taken, and the first and the farthest that are refused; each on a sounder of its own. */
    private static void range(String call, Call f, int least, long atLeast, int most, long atMost, long refusal) {
        due(call + " with " + least, f.on(sounder(), least), atLeast);
        due(call + " with " + most, f.on(sounder(), most), atMost);
        refused(call, f, refusal, least - 1, most + 1, LEAST, MOST);
    }

    private static void refused(String call, Call f, long refusal, int... values) {
        for (int v : values) {
            due(call + " with " + v, f.on(sounder(), v), refusal);
        }
    }

    /**
     * Three PINGS of two CELLS; ALONG, ACROSS are 1 2, 3 4; 5 6, 7 8; 9 10, 11 12: all
     * GOOD; HEADINGS 0, PLACES 0 0, 10 20, 30 50, DEPTHS 2. REELS 4 .. 7 are LOST.
     */
    private static LayerSounder sounder() {
        LayerSounder x = new LayerSounder();
        x.cells(2);
        fill(x, 0, 2, 1, 3, 5, 7, 9, 11);
        fill(x, 1, 2, 0, 0, 0, 0, 0, 0);
        fill(x, 2, 2, 2, 4, 6, 8, 10, 12);
        fill(x, 3, 2, 0, 0, 0, 0, 0, 0);
        x.ping(0, 0, 0, 2);
        x.ping(0, 10, 20, 2);
        x.ping(0, 30, 50, 2);
        return x;
    }

    private static void fill(LayerSounder x, int r, int form, int... items) {
        x.reel(r, form, items.length);
        for (int i = 0; i < items.length; i++) {
            x.put(r, form, i, items[i]);
        }
    }

    private static void rowIs(LayerSounder x, String when, int r, int form, int... items) {
        for (int i = 0; i < items.length; i++) {
            due("item " + i + " of REEL " + r + ", " + when, x.get(r, form, i), items[i]);
        }
        due("REEL " + r + " ends there, " + when, x.get(r, form, items.length), LEAST);
    }

    /** CELL c of PING p of sounder() has no answer from now on. */
    private static void unanswer(LayerSounder x, int p, int c) {
        x.put(0, 2, 2 * p + c, NO_READING);
        x.put(2, 2, 2 * p + c, NO_READING);
    }

    private static LayerSounder forty() {
        LayerSounder x = new LayerSounder();
        for (int p = 0; p < 40; p++) {
            x.ping(0, 0, 0, 0);
        }
        return x;
    }

    // ---- a new object

    private static void promise1NewObject() {
        sentence(1, "No PINGS; all REELS are LOST; OWN by none, EDGE 0.");
        LayerSounder x = new LayerSounder();
        due("No PINGS: count(0)", x.count(0), 0);
        due("No PINGS: about(0, 0)", x.about(0, 0), LEAST);
        due("No PINGS: fate(0, 0)", x.fate(0, 0), BAD);
        due("No PINGS: clear()", x.clear(), 0);
        due("OWN by none: count(2)", x.count(2), 0);
        due("EDGE 0: count(4)", x.count(4), 0);
        due("no FINDING: count(5)", x.count(5), 0);
        for (int r = 0; r < 8; r++) {
            due("all REELS are LOST: lose(" + r + ")", x.lose(r), NULL);
        }
        x.ping(35, 5, 5, 1);
        due("OWN by none: own(0, 0)", x.own(0, 0), 0);
        due("OWN by none: own(0, 1)", x.own(0, 1), 0);
        for (int b = 0; b < 4; b++) {
            x.reel(b, 0, 4);
        }
        due("EDGE 0: fate(0, 0), DEPTH 1", x.fate(0, 0), 0);
        due("EDGE 0: fate(0, 1), DEPTH 1", x.fate(0, 1), 3);
        LayerSounder other = new LayerSounder();
        due("another one has no PINGS", other.count(0), 0);
        due("another one's REELS are LOST", other.lose(0), NULL);
        due("another one has L 4", other.count(1), 4);
    }

    // ---- reels

    private static void promise2Reel() {
        sentence(2, "A REEL is a new row of a FORM with n items: n.");
        due("reel(4, 0, 0)", sounder().reel(4, 0, 0), 0);
        due("reel(4, 0, 200)", sounder().reel(4, 0, 200), 200);
        LayerSounder x = new LayerSounder();
        for (int r : new int[] {0, 7}) {
            fill(x, r, 0, 1, 2, 3);
            due("reel(" + r + ", 0, 3) over one", x.reel(r, 0, 3), 3);
            rowIs(x, "a new row of the same FORM", r, 0, 0, 0, 0);
            due("reel(" + r + ", 2, 4) over one", x.reel(r, 2, 4), 4);
            rowIs(x, "a new row of another FORM", r, 2, 0, 0, 0, 0);
            due("reel(" + r + ", 1, 0) over one", x.reel(r, 1, 0), 0);
            rowIs(x, "an empty row", r, 1);
            due("an empty row is not LOST", x.lose(r), 0);
            due("reel(" + r + ", 1, 200) over a LOST one", x.reel(r, 1, 200), 200);
            due("the last item", x.put(r, 1, 199, 9), 1);
            due("no such item", x.put(r, 1, 200, 9), INDEX);
            x.reel(r, 1, 199);
            due("one less", x.put(r, 1, 199, 9), INDEX);
            x.reel(r, 1, 200);
            due("what stood behind the end is gone", x.get(r, 1, 199), 0);
        }
        sentence(2, "BAD: REEL, FORM, above 200; SIZE.");
        range("reel(.., 0, 1)", (y, v) -> y.reel(v, 0, 1), 0, 1, 7, 1, BAD);
        range("reel(0, .., 1)", (y, v) -> y.reel(0, v, 1), 0, 1, 2, 1, BAD);
        refused("reel(0, 0, ..)", (y, v) -> y.reel(0, 0, v), BAD, 201, 202, MOST);
        refused("reel(0, 0, ..)", (y, v) -> y.reel(0, 0, v), SIZE, -1, -2, -200, LEAST);
        refused("BAD ahead of SIZE: reel(.., 0, -1)", (y, v) -> y.reel(v, 0, -1), BAD, -1, 8);
        refused("BAD ahead of SIZE: reel(0, .., -1)", (y, v) -> y.reel(0, v, -1), BAD, -1, 3);
        due("SIZE on a LOST one", x.reel(3, 0, -1), SIZE);
        due("it is LOST still", x.lose(3), NULL);
    }

    private static void promise3Lose() {
        sentence(3, "It is LOST: how many items it had.");
        for (int n : new int[] {0, 1, 199, 200}) {
            for (int r : new int[] {0, 7}) {
                LayerSounder x = new LayerSounder();
                x.reel(r, 1, n);
                due("lose(" + r + ") of " + n, x.lose(r), n);
                due("put on it", x.put(r, 1, 0, 0), NULL);
                due("lose(" + r + ") once more", x.lose(r), NULL);
                due("reel(" + r + ", 1, 2)", x.reel(r, 1, 2), 2);
                due("lose(" + r + ") of 2", x.lose(r), 2);
            }
        }
        sentence(3, "BAD; NULL.");
        refused("lose(..)", (x, v) -> x.lose(v), BAD, -1, 8, LEAST, MOST);
        refused("lose(..)", (x, v) -> x.lose(v), NULL, 4, 7);
    }

    private static void promise4Put() {
        sentence(4, "Item i, treated as of a FORM, becomes v (the lowest bits that it has): 1.");
        int[] told = {127, 128, 255, 256, -128, -129, 32767, 32768, 65535, 65536, -32768, -32769, MOST, LEAST};
        int[] bytes = {127, -128, -1, 0, -128, 127, -1, 0, -1, 0, 0, -1, -1, 0};
        int[] shorts = {127, 128, 255, 256, -128, -129, 32767, -32768, -1, 0, -32768, 32767, -1, 0};
        int[][] kept = {bytes, shorts, told};
        for (int form = 0; form < 3; form++) {
            LayerSounder x = new LayerSounder();
            x.reel(0, form, 200);
            for (int i = 0; i < told.length; i++) {
                due("put(0, " + form + ", 0, " + told[i] + ")", x.put(0, form, 0, told[i]), 1);
                due("get(0, " + form + ", 0)", x.get(0, form, 0), kept[form][i]);
                due("put(0, " + form + ", 199, " + told[i] + ")", x.put(0, form, 199, told[i]), 1);
                due("get(0, " + form + ", 199)", x.get(0, form, 199), kept[form][i]);
            }
            due("the one beside it is as it was", x.get(0, form, 1), 0);
            due("the one beside it is as it was", x.get(0, form, 198), 0);
        }
        sentence(4, "BAD; NULL; CAST; INDEX.");
        range("put(.., 2, 0, 0)", (x, v) -> all(x).put(v, 2, 0, 0), 0, 1, 7, 1, BAD);
        refused("put(0, .., 0, 0)", (x, v) -> x.put(0, v, 0, 0), BAD, -1, 3, LEAST, MOST);
        refused("put(0, .., 0, 0)", (x, v) -> x.put(0, v, 0, 0), CAST, 0, 1);
        range("put(0, 2, .., 0)", (x, v) -> x.put(0, 2, v, 0), 0, 1, 5, 1, INDEX);
        refused("put(.., 2, 0, 0) on LOST ones", (x, v) -> x.put(v, 2, 0, 0), NULL, 4, 5, 6, 7);
        refused("put(4, 0, .., 0) on an empty one", (x, v) -> x.reel(4, 0, 0) + x.put(4, 0, v, 0), INDEX, -1, 0, 1);
        refused("BAD ahead of NULL: put(4, .., 0, 0)", (x, v) -> x.put(4, v, 0, 0), BAD, -1, 3);
        refused("NULL ahead of CAST, INDEX: put(4, .., 9, 0)", (x, v) -> x.put(4, v, 9, 0), NULL, 0, 1, 2);
        refused("CAST ahead of INDEX: put(0, .., 6, 0)", (x, v) -> x.put(0, v, 6, 0), CAST, 0, 1);
    }

    /** REELS 4 .. 7 are rows too. */
    private static LayerSounder all(LayerSounder x) {
        for (int r = 4; r < 8; r++) {
            x.reel(r, 2, 1);
        }
        return x;
    }

    private static void promise5Get() {
        sentence(5, "Item i of it.");
        for (int form = 0; form < 3; form++) {
            LayerSounder x = new LayerSounder();
            x.reel(7, form, 200);
            x.put(7, form, 0, 11);
            x.put(7, form, 199, -12);
            due("get(7, " + form + ", 0)", x.get(7, form, 0), 11);
            due("get(7, " + form + ", 1)", x.get(7, form, 1), 0);
            due("get(7, " + form + ", 198)", x.get(7, form, 198), 0);
            due("get(7, " + form + ", 199)", x.get(7, form, 199), -12);
        }
        sentence(5, "BAD: the least int; so are NULL, CAST, INDEX (count() 5 tells).");
        for (int v : new int[] {-1, 8, LEAST, MOST}) {
            getFinds(v, 2, 0, 0);
        }
        for (int v : new int[] {-1, 3, LEAST, MOST}) {
            getFinds(0, v, 0, 0);
            getFinds(4, v, 0, 0);
        }
        for (int form = 0; form < 3; form++) {
            getFinds(4, form, 0, 1);
            getFinds(7, form, 99, 1);
        }
        getFinds(0, 0, 0, 3);
        getFinds(0, 1, 5, 3);
        getFinds(0, 0, 99, 3);
        for (int v : new int[] {-1, 6, LEAST, MOST}) {
            getFinds(3, 2, v, 2);
        }
        LayerSounder x = sounder();
        x.reel(4, 0, 0);
        due("get(4, 0, 0) of an empty one", x.get(4, 0, 0), LEAST);
        due("count(5)", x.count(5), 2);
        x.put(0, 2, 0, LEAST);
        x.lose(5);
        due("an item may be the least int itself", x.get(0, 2, 0), LEAST);
        due("count(5) tells: still 1", x.count(5), 1);
    }

    private static void getFinds(int r, int form, int i, int finding) {
        LayerSounder x = sounder();
        due("get(" + r + ", " + form + ", " + i + ")", x.get(r, form, i), LEAST);
        due("count(5) after get(" + r + ", " + form + ", " + i + ")", x.count(5), finding);
    }

    private static void promise6Copy() {
        sentence(6, "BAD: the REELS; NULL: r, q; STORE; INDEX: below 0, not so many.");
        range("copy(.., 0, 0, 0, 1)", (x, v) -> all(x).copy(v, 0, 0, 0, 1), 0, 1, 7, 1, BAD);
        range("copy(0, 0, .., 0, 1)", (x, v) -> all(x).copy(0, 0, v, 0, 1), 0, 1, 7, 1, BAD);
        refused("copy(.., 0, 0, 0, 1) of LOST ones", (x, v) -> x.copy(v, 0, 0, 0, 1), NULL, 4, 5, 6, 7);
        refused("copy(0, 0, .., 0, 1) to LOST ones", (x, v) -> x.copy(0, 0, v, 0, 1), NULL, 4, 5, 6, 7);
        refused("copy(.., 0, 7, 0, 0) of and to LOST ones", (x, v) -> x.copy(v, 0, 7, 0, 0), NULL, 4, 7);
        refused("BAD ahead of NULL: copy(.., 0, 7, 0, 0)", (x, v) -> x.copy(v, 0, 7, 0, 0), BAD, -1, 8);
        refused("BAD ahead of NULL: copy(7, 0, .., 0, 0)", (x, v) -> x.copy(7, 0, v, 0, 0), BAD, -1, 8);
        refused("NULL ahead of INDEX: copy(0, 0, 7, 0, ..)", (x, v) -> x.copy(0, 0, 7, 0, v), NULL, -1, 7);
        for (int form = 0; form < 3; form++) {
            for (int other = 0; other < 3; other++) {
                LayerSounder x = new LayerSounder();
                x.reel(0, form, 2);
                x.reel(1, other, 2);
                due("FORM " + form + " to FORM " + other, x.copy(0, 0, 1, 0, 2), form == other ? 1 : STORE);
                due("even of no items", x.copy(0, 0, 1, 0, 0), form == other ? 1 : STORE);
                due("STORE ahead of INDEX: too many", x.copy(0, 0, 1, 0, 3), form == other ? INDEX : STORE);
                due("STORE ahead of INDEX: below 0", x.copy(0, -1, 1, 0, 1), form == other ? INDEX : STORE);
            }
        }
    }

    private static void promise6CopyAsTheyWere() {
        sentence(6, "n items of REEL r, from i on, come to REEL q (perhaps r, as they were), from j on: 1.");
        int[] row = {1, 2, 3, 4, 5};
        for (int form = 0; form < 3; form++) {
            for (int i = 0; i <= 5; i++) {
                for (int j = 0; j <= 5; j++) {
                    int n = 5 - Math.max(i, j);
                    int[] after = row.clone();
                    for (int k = 0; k < n; k++) {
                        after[j + k] = row[i + k];
                    }
                    LayerSounder x = new LayerSounder();
                    fill(x, 2, form, row);
                    due("copy(2, " + i + ", 2, " + j + ", " + n + ")", x.copy(2, i, 2, j, n), 1);
                    rowIs(x, "from " + i + " to " + j, 2, form, after);
                }
            }
        }
        LayerSounder x = new LayerSounder();
        x.reel(0, 2, 200);
        x.reel(1, 2, 200);
        x.put(0, 2, 0, 6);
        x.put(0, 2, 199, 7);
        due("all 200", x.copy(0, 0, 1, 0, 200), 1);
        due("item 0", x.get(1, 2, 0), 6);
        due("item 199", x.get(1, 2, 199), 7);
        due("the first to the last", x.copy(0, 0, 1, 199, 1), 1);
        due("item 199", x.get(1, 2, 199), 6);
        due("the last to the first", x.copy(0, 199, 1, 0, 1), 1);
        due("item 0", x.get(1, 2, 0), 7);
        due("REEL 0 is as it was", x.get(0, 2, 0), 6);
        x.put(1, 2, 0, 8);
        due("what came is no longer the same item", x.get(0, 2, 199), 7);
        x.reel(3, 0, 0);
        x.reel(4, 0, 0);
        due("no items of an empty one to an empty one", x.copy(3, 0, 4, 0, 0), 1);
        due("no items of an empty one to itself", x.copy(3, 0, 3, 0, 0), 1);
        due("one of an empty one", x.copy(3, 0, 4, 0, 1), INDEX);
    }

    private static void promise6CopyIndex() {
        sentence(6, "INDEX: below 0, not so many.");
        // REEL 0 has 5 items, REEL 1 has 3: i, j, n are each tried from -1 to beyond the end.
        for (int i = -1; i <= 6; i++) {
            LayerSounder x = new LayerSounder();
            x.reel(0, 1, 5);
            x.reel(1, 1, 3);
            for (int j = -1; j <= 4; j++) {
                for (int n = -1; n <= 6; n++) {
                    boolean there = i >= 0 && j >= 0 && n >= 0 && i + n <= 5 && j + n <= 3;
                    due("copy(0, " + i + ", 1, " + j + ", " + n + ")", x.copy(0, i, 1, j, n), there ? 1 : INDEX);
                    due("copy(1, " + j + ", 0, " + i + ", " + n + ")", x.copy(1, j, 0, i, n), there ? 1 : INDEX);
                }
            }
        }
        LayerSounder x = sounder();
        for (int v : new int[] {LEAST, MOST, MOST - 5, LEAST + 5}) {
            due("copy(0, " + v + ", 1, 0, 1)", x.copy(0, v, 1, 0, 1), INDEX);
            due("copy(0, 0, 1, " + v + ", 1)", x.copy(0, 0, 1, v, 1), INDEX);
            due("copy(0, 0, 1, 0, " + v + ")", x.copy(0, 0, 1, 0, v), INDEX);
            due("sums that wrap around", x.copy(0, v, 1, v, v), INDEX);
            due("sums that wrap around", x.copy(0, 1, 1, 1, v), INDEX);
            due("sums that wrap around", x.copy(0, v, 1, 0, MOST), INDEX);
        }
        due("count(5)", x.count(5), 2);
    }

    // ---- pings

    private static void promise7Cells() {
        sentence(7, "L: what it was.");
        LayerSounder x = new LayerSounder();
        due("cells(1)", x.cells(1), 4);
        due("cells(16)", x.cells(16), 1);
        due("cells(16) again", x.cells(16), 16);
        due("count(1)", x.count(1), 16);
        sentence(7, "BAD; NOT: there are PINGS.");
        for (int v : new int[] {0, -1, 17, LEAST, MOST}) {
            due("cells(" + v + ")", x.cells(v), BAD);
        }
        x.ping(0, 0, 0, 0);
        due("cells(1) with one PING", x.cells(1), NOT);
        due("cells(16), what it is, with one PING", x.cells(16), NOT);
        due("BAD ahead of NOT", x.cells(0), BAD);
        due("BAD ahead of NOT", x.cells(17), BAD);
        due("count(1)", x.count(1), 16);
        x.clear();
        due("cells(1) with no PINGS any more", x.cells(1), 16);
        due("cells(5) with 40 PINGS", forty().cells(5), NOT);
    }

    private static void promise8Ping() {
        sentence(8, "A PING more: its number.");
        LayerSounder x = new LayerSounder();
        for (int p = 0; p < 40; p++) {
            due("ping", x.ping(p % 36, p, -p, p % 17), p);
        }
        for (int p = 0; p < 40; p++) {
            due("about(" + p + ", 0)", x.about(p, 0), p % 36);
            due("about(" + p + ", 1)", x.about(p, 1), p);
            due("about(" + p + ", 2)", x.about(p, 2), -p);
            due("about(" + p + ", 3)", x.about(p, 3), p % 17);
        }
        sentence(8, "BAD; FULL.");
        range("ping(.., 0, 0, 0)", (y, v) -> y.ping(v, 0, 0, 0), 0, 3, 35, 3, BAD);
        range("ping(0, .., 0, 0)", (y, v) -> y.ping(0, v, 0, 0), -1000000, 3, 1000000, 3, BAD);
        range("ping(0, 0, .., 0)", (y, v) -> y.ping(0, 0, v, 0), -1000000, 3, 1000000, 3, BAD);
        range("ping(0, 0, 0, ..)", (y, v) -> y.ping(0, 0, 0, v), 0, 3, 16, 3, BAD);
        due("the 41st", x.ping(0, 0, 0, 0), FULL);
        due("the 41st once more", x.ping(35, 1000000, 1000000, 16), FULL);
        due("BAD ahead of FULL: HEADING", x.ping(36, 0, 0, 0), BAD);
        due("BAD ahead of FULL: X", x.ping(0, 1000001, 0, 0), BAD);
        due("BAD ahead of FULL: Y", x.ping(0, 0, -1000001, 0), BAD);
        due("BAD ahead of FULL: DEPTH", x.ping(0, 0, 0, 17), BAD);
        due("count(0)", x.count(0), 40);
    }

    private static void promise9Mend() {
        sentence(9, "The HEADING of a PING becomes another one: what it was.");
        LayerSounder x = forty();
        for (int p : new int[] {0, 39}) {
            due("mend(" + p + ", 35)", x.mend(p, 35), 0);
            due("mend(" + p + ", 35), what it is", x.mend(p, 35), 35);
            due("about(" + p + ", 0)", x.about(p, 0), 35);
            due("mend(" + p + ", 0)", x.mend(p, 0), 35);
            due("about(" + p + ", 0)", x.about(p, 0), 0);
        }
        x.mend(39, 5);
        due("the one ahead is as it was", x.about(38, 0), 0);
        LayerSounder y = sounder();
        y.mend(1, 9);
        due("late turns: its PACE EAST", y.pace(1, 0, 0), -6 * TWICE_TURNED);
        due("the others' are as they were", y.pace(0, 0, 0), 1 * TWICE_TURNED);
        sentence(9, "BAD.");
        range("mend(.., 1)", (z, v) -> z.mend(v, 1), 0, 0, 2, 0, BAD);
        range("mend(0, ..)", (z, v) -> z.mend(0, v), 0, 0, 35, 0, BAD);
        due("mend(40, 0) of 40", x.mend(40, 0), BAD);
        due("mend(0, 0) of none", new LayerSounder().mend(0, 0), BAD);
    }

    private static void promise10Clear() {
        sentence(10, "No PINGS: how many there were.");
        due("clear() of none", new LayerSounder().clear(), 0);
        LayerSounder full = forty();
        due("clear() of 40", full.clear(), 40);
        due("clear() once more", full.clear(), 0);
        due("count(0)", full.count(0), 0);
        due("about(0, 0)", full.about(0, 0), LEAST);
        due("fates(2)", full.fates(2), 0);
        due("numbered from 0 again", full.ping(1, 2, 3, 4), 0);
        due("only that one", full.about(1, 0), LEAST);
        LayerSounder x = sounder();
        x.motion(2);
        x.skew(7);
        x.laws(3, false, 77);
        x.lose(7);
        due("clear() of 3", x.clear(), 3);
        int[] counts = {0, 2, 2, 7, 3, 1, 77, 0};
        for (int what = 0; what < 8; what++) {
            due("all else is as it was: count(" + what + ")", x.count(what), counts[what]);
        }
        rowIs(x, "REELS are as they were", 0, 2, 1, 3, 5, 7, 9, 11);
    }

    private static void promise11About() {
        sentence(11, "Of PING p: 0 HEADING, 1 X, 2 Y, 3 DEPTH, 4 whether it has OWN (1, 0).");
        LayerSounder x = new LayerSounder();
        x.ping(35, -1000000, 1000000, 16);
        int[] wants = {35, -1000000, 1000000, 16, 1};
        for (int what = 0; what <= 4; what++) {
            due("about(0, " + what + ")", x.about(0, what), wants[what]);
        }
        x.motion(2);
        due("about(0, 4): the last by PLACES", x.about(0, 4), 0);
        x.ping(0, 0, 0, 0);
        due("about(0, 4): no longer the last", x.about(0, 4), 1);
        due("about(1, 4): the last by PLACES", x.about(1, 4), 0);
        x.motion(1);
        due("about(0, 4): no BOTTOM", x.about(0, 4), 0);
        sentence(11, "BAD: the least int.");
        range("about(.., 3)", (y, v) -> y.about(v, 3), 0, 2, 2, 2, LEAST);
        range("about(0, ..)", (y, v) -> y.about(0, v), 0, 0, 4, 1, LEAST);
        due("about(0, 0) of none", new LayerSounder().about(0, 0), LEAST);
        due("about(39, 3) of 40", forty().about(39, 3), 0);
        due("about(40, 3) of 40", forty().about(40, 3), LEAST);
    }

    private static void promise12Own() {
        sentence(12, "OWN of a PING: what = 0 EAST, 1 NORTH.");
        LayerSounder x = sounder();
        x.motion(2);
        due("own(0, 0)", x.own(0, 0), 10 * TWICE_TURNED);
        due("own(0, 1)", x.own(0, 1), 20 * TWICE_TURNED);
        due("own(1, 0), the last but one", x.own(1, 0), 20 * TWICE_TURNED);
        due("own(1, 1), the last but one", x.own(1, 1), 30 * TWICE_TURNED);
        sentence(12, "BAD; NOT: it has none.");
        due("own(2, 0), the last", x.own(2, 0), NOT_LONG);
        due("own(2, 1), the last", x.own(2, 1), NOT_LONG);
        due("BAD ahead of NOT", x.own(2, 2), BAD_LONG);
        due("BAD ahead of NOT", x.own(2, -1), BAD_LONG);
        x.motion(1);
        due("own(0, 0) without BOTTOM", x.own(0, 0), NOT_LONG);
        range("own(.., 0)", (y, v) -> y.own(v, 0), 0, 0, 2, 0, BAD_LONG);
        range("own(0, ..)", (y, v) -> y.own(0, v), 0, 0, 1, 0, BAD_LONG);
        due("own(0, 0) of none", new LayerSounder().own(0, 0), BAD_LONG);
    }

    // ---- laws

    private static void promise13Motion() {
        sentence(13, "How OWN is told (0 to 2): what it was.");
        LayerSounder x = new LayerSounder();
        int was = 0;
        for (int how : new int[] {2, 0, 1, 1, 2, 1, 0}) {
            due("motion(" + how + ")", x.motion(how), was);
            due("count(2)", x.count(2), how);
            was = how;
        }
        sentence(13, "BAD.");
        range("motion(..)", (y, v) -> y.motion(v), 0, 0, 2, 0, BAD);
        x.motion(2);
        due("motion(3)", x.motion(3), BAD);
        due("motion(-1)", x.motion(-1), BAD);
        due("count(2)", x.count(2), 2);
    }

    private static void promise14Skew() {
        sentence(14, "THE SKEW: what it was.");
        LayerSounder x = new LayerSounder();
        int was = 0;
        for (int turn : new int[] {35, 0, 9, 9, 35}) {
            due("skew(" + turn + ")", x.skew(turn), was);
            due("count(3)", x.count(3), turn);
            was = turn;
        }
        sentence(14, "BAD.");
        range("skew(..)", (y, v) -> y.skew(v), 0, 0, 35, 0, BAD);
        due("skew(36) is not 0", x.skew(36), BAD);
        due("skew(-1) is not 35", x.skew(-1), BAD);
        due("count(3)", x.count(3), 35);
    }

    private static void promise15Laws() {
        sentence(15, "EDGE, whether THREES are taken, BOUND: 1.");
        LayerSounder x = new LayerSounder();
        lawsAre(x, 16, false, 100000);
        lawsAre(x, 0, true, 0);
        lawsAre(x, 0, false, 0);
        lawsAre(x, 16, true, 100000);
        sentence(15, "BAD.");
        range("laws(.., true, 0)", (y, v) -> y.laws(v, true, 0), 0, 1, 16, 1, BAD);
        range("laws(0, false, ..)", (y, v) -> y.laws(0, false, v), 0, 1, 100000, 1, BAD);
        int[][] refused = {{-1, 5}, {17, 5}, {5, -1}, {5, 100001}, {-1, -1}, {17, 100001}};
        for (int[] law : refused) {
            due("laws(" + law[0] + ", false, " + law[1] + ")", x.laws(law[0], false, law[1]), BAD);
            due("EDGE is as it was", x.count(4), 16);
            due("THREES are as they were", x.count(7), 1);
            due("BOUND is as it was", x.count(6), 100000);
        }
    }

    private static void lawsAre(LayerSounder x, int edge, boolean threes, int bound) {
        due("laws(" + edge + ", " + threes + ", " + bound + ")", x.laws(edge, threes, bound), 1);
        due("EDGE", x.count(4), edge);
        due("THREES", x.count(7), threes ? 1 : 0);
        due("BOUND", x.count(6), bound);
    }

    // ---- beams

    private static void promise16Answer() {
        sentence(16, "Of four BEAMS as told (each an int; NONE as in 1): 0 ALONG, 1 ACROSS, 2 ODD, 3 whether it is a THREE (1, 0).");
        answersAre(-127, 20000, 20000, -127, -20127, 20127, 0, 0);
        answersAre(20000, 20000, -127, -127, 0, 0, 40254, 0);
        answersAre(-1, -1, -1, -1, 0, 0, 0, 0);
        answersAre(-128, 20000, 20000, 20000, 20000 - 20000, 0, 0, 1);
        answersAre(20000, 20001, -127, -127, 40254, 0, 0, 1);
        answersAre(20000, 20000, MOST, -127, 0, 40254, 0, 1);
        answersAre(-127, -127, 20000, LEAST, 0, 40254, 0, 1);
        sentence(16, "BAD: what; NOT: no answer: the least int each.");
        range("answer(5, 3, 2, 1, ..)", (x, v) -> x.answer(5, 3, 2, 1, v), 0, 2, 3, 0, LEAST);
        range("answer(-128, 3, 2, 1, ..)", (x, v) -> x.answer(-128, 3, 2, 1, v), 0, -3, 3, 1, LEAST);
        refused("answer(-128, 3, 20001, 1, ..)", (x, v) -> x.answer(-128, 3, 20001, 1, v), LEAST, -1, 0, 1, 2, 3, 4);
        refused("answer(-128, -128, 1, 1, ..)", (x, v) -> x.answer(-128, -128, 1, 1, v), LEAST, 0, 1, 2, 3);
        refused("answer(1, 1, 20001, 20001, ..)", (x, v) -> x.answer(1, 1, 20001, 20001, v), LEAST, 0, 1, 2, 3);
        refused("answer of four lost", (x, v) -> x.answer(LEAST, MOST, LEAST, MOST, v), LEAST, 0, 1, 2, 3);
    }

    private static void answersAre(int a, int b, int c, int d, int... wants) {
        LayerSounder x = new LayerSounder();
        for (int what = 0; what < 4; what++) {
            String call = "answer(" + a + ", " + b + ", " + c + ", " + d + ", " + what + ")";
            due(call, x.answer(a, b, c, d, what), wants[what]);
        }
    }

    private static void promise17Beam() {
        sentence(17, "BEAM b (0 .. 3) of which ALONG, ACROSS, ODD (each -20000 to 20000) and the sum of all four (-1000000 to 1000000) are made, 4 times");
        range("beam(.., 0, 0, 0, 0)", (x, v) -> x.beam(v, 0, 0, 0, 0), -20000, -40000, 20000, 40000, LEAST);
        range("beam(.., 0, 0, 0, 1)", (x, v) -> x.beam(v, 0, 0, 0, 1), -20000, 40000, 20000, -40000, LEAST);
        range("beam(.., 0, 0, 0, 2)", (x, v) -> x.beam(v, 0, 0, 0, 2), -20000, 0, 20000, 0, LEAST);
        range("beam(0, .., 0, 0, 2)", (x, v) -> x.beam(0, v, 0, 0, 2), -20000, -40000, 20000, 40000, LEAST);
        range("beam(0, .., 0, 0, 3)", (x, v) -> x.beam(0, v, 0, 0, 3), -20000, 40000, 20000, -40000, LEAST);
        range("beam(0, .., 0, 0, 0)", (x, v) -> x.beam(0, v, 0, 0, 0), -20000, 0, 20000, 0, LEAST);
        range("beam(0, 0, .., 0, 0)", (x, v) -> x.beam(0, 0, v, 0, 0), -20000, -20000, 20000, 20000, LEAST);
        range("beam(0, 0, .., 0, 1)", (x, v) -> x.beam(0, 0, v, 0, 1), -20000, -20000, 20000, 20000, LEAST);
        range("beam(0, 0, .., 0, 2)", (x, v) -> x.beam(0, 0, v, 0, 2), -20000, 20000, 20000, -20000, LEAST);
        range("beam(0, 0, .., 0, 3)", (x, v) -> x.beam(0, 0, v, 0, 3), -20000, 20000, 20000, -20000, LEAST);
        for (int b = 0; b < 4; b++) {
            int of = b;
            range("beam(0, 0, 0, .., " + b + ")", (x, v) -> x.beam(0, 0, 0, v, of), -1000000, -1000000, 1000000, 1000000, LEAST);
        }
        LayerSounder x = new LayerSounder();
        int[] most = {1060000, 980000, 1020000, 940000};
        for (int b = 0; b < 4; b++) {
            due("beam of the most, " + b, x.beam(20000, 20000, 20000, 1000000, b), most[b]);
            due("beam of the least, " + b, x.beam(-20000, -20000, -20000, -1000000, b), -most[b]);
        }
        due("of what four BEAMS make they are made again, 4 times", x.beam(7, 12, -15, 41, 3), 4 * 8);
        sentence(17, "BAD: the least int.");
        range("beam(1, 2, 4, 8, ..)", (y, v) -> y.beam(1, 2, 4, 8, v), 0, 14, 3, 0, LEAST);
    }

    private static void promise18Turned() {
        sentence(18, "X (what = 0), Y (1) TURNED by a TURN (X, Y -1000000 to 1000000).");
        range("turned(.., 0, 0, 0)", (x, v) -> x.turned(v, 0, 0, 0), -1000000, -65000000, 1000000, 65000000, LEAST);
        range("turned(.., 0, 9, 1)", (x, v) -> x.turned(v, 0, 9, 1), -1000000, -65000000, 1000000, 65000000, LEAST);
        range("turned(0, .., 9, 0)", (x, v) -> x.turned(0, v, 9, 0), -1000000, 65000000, 1000000, -65000000, LEAST);
        range("turned(0, .., 0, 1)", (x, v) -> x.turned(0, v, 0, 1), -1000000, -65000000, 1000000, 65000000, LEAST);
        LayerSounder x = new LayerSounder();
        due("the most: 52 and 39", x.turned(1000000, -1000000, 4, 0), 91000000);
        due("the most: 39 and 52", x.turned(1000000, 1000000, 5, 1), 91000000);
        due("the least", x.turned(-1000000, -1000000, 4, 1), -91000000);
        sentence(18, "BAD: the least int.");
        range("turned(1, 2, .., 0)", (y, v) -> y.turned(1, 2, v, 0), 0, 65, 35, 63 + 32, LEAST);
        range("turned(1, 2, .., 1)", (y, v) -> y.turned(1, 2, v, 1), 0, 130, 35, -16 + 126, LEAST);
        range("turned(1, 2, 0, ..)", (y, v) -> y.turned(1, 2, 0, v), 0, 65, 1, 130, LEAST);
    }

    private static void promise19Fate() {
        sentence(19, "The FATE of a CELL. BAD.");
        range("fate(.., 0)", (x, v) -> x.fate(v, 0), 0, 0, 2, 0, BAD);
        range("fate(0, ..)", (x, v) -> x.fate(0, v), 0, 0, 1, 0, BAD);
        due("fate(0, 0) of none", new LayerSounder().fate(0, 0), BAD);
        LayerSounder x = new LayerSounder();
        x.cells(16);
        for (int p = 0; p < 40; p++) {
            x.ping(0, 0, 0, 16);
        }
        due("fate(39, 15) of 40 PINGS of 16", x.fate(39, 15), 2);
        due("fate(39, 16)", x.fate(39, 16), BAD);
        due("fate(40, 15)", x.fate(40, 15), BAD);
        x.clear();
        due("fate(0, 0) after clear()", x.fate(0, 0), BAD);
        // Of each FATE a CELL, and the one beside the bound that has it not.
        LayerSounder y = sounder();
        y.laws(1, true, 1);
        due("GOOD: ODD -1, c and EDGE 1", y.fate(0, 0), 0);
        due("3: c and EDGE 2", y.fate(0, 1), 3);
        y.laws(0, true, 0);
        due("5: ODD -1, BOUND 0", y.fate(0, 0), 5);
        y.motion(2);
        due("1: the last by PLACES", y.fate(2, 0), 1);
        due("not the last but one", y.fate(1, 0), 5);
    }

    private static void promise20Pace() {
        sentence(20, "THE PACE of a CELL: 0 EAST, 1 NORTH.");
        range("pace(.., 0, 0)", (x, v) -> x.pace(v, 0, 0), 0, TWICE_TURNED, 2, 9 * TWICE_TURNED, BAD_LONG);
        range("pace(2, .., 1)", (x, v) -> x.pace(2, v, 1), 0, 10 * TWICE_TURNED, 1, 12 * TWICE_TURNED, BAD_LONG);
        range("pace(1, 1, ..)", (x, v) -> x.pace(1, 1, v), 0, 7 * TWICE_TURNED, 1, 8 * TWICE_TURNED, BAD_LONG);
        due("pace(0, 0, 0) of none", new LayerSounder().pace(0, 0, 0), BAD_LONG);
        sentence(20, "BAD; NOT: its PING has no OWN, or there is no answer.");
        LayerSounder x = sounder();
        x.motion(2);
        due("the last but one by PLACES", x.pace(1, 0, 0), (5 - 20) * TWICE_TURNED);
        due("the last by PLACES", x.pace(2, 0, 0), NOT_LONG);
        due("BAD ahead of NOT: what", x.pace(2, 0, 2), BAD_LONG);
        due("BAD ahead of NOT: the CELL", x.pace(2, 2, 0), BAD_LONG);
        x.motion(0);
        unanswer(x, 0, 0);
        due("no answer EAST", x.pace(0, 0, 0), NOT_LONG);
        due("no answer NORTH", x.pace(0, 0, 1), NOT_LONG);
        due("BAD ahead of NOT: what", x.pace(0, 0, -1), BAD_LONG);
        x.put(2, 2, 0, 2);
        due("a THREE has an answer: 2 less 0 less 0", x.pace(0, 0, 0), 2 * TWICE_TURNED);
        // FATES 3 to 6 have a PACE.
        x.laws(16, false, 0);
        due("FATE 3", x.fate(0, 0), 3);
        due("its PACE", x.pace(0, 0, 0), 2 * TWICE_TURNED);
        x.laws(0, false, 0);
        due("FATE 4", x.fate(0, 0), 4);
        due("its PACE", x.pace(0, 0, 0), 2 * TWICE_TURNED);
        due("FATE 5", x.fate(1, 0), 5);
        due("its PACE", x.pace(1, 0, 0), 5 * TWICE_TURNED);
        x.laws(0, true, 100000);
        x.put(0, 2, 2, 20000);
        x.put(1, 2, 2, -127);
        due("FATE 6", x.fate(1, 0), 6);
        due("its PACE", x.pace(1, 0, 0), 20127 * TWICE_TURNED);
    }

    private static void promise21Fates() {
        sentence(21, "How many CELLS of all PINGS have a FATE (0 to 6).");
        LayerSounder x = sounder();
        x.put(0, 2, 0, 20000);
        x.put(1, 2, 0, -127);
        x.put(0, 2, 1, NO_READING);
        unanswer(x, 1, 0);
        x.laws(0, false, 100000);
        int[] wants = {3, 0, 1, 0, 1, 0, 1};
        for (int fate = 0; fate <= 6; fate++) {
            due("fates(" + fate + ")", x.fates(fate), wants[fate]);
        }
        x.laws(0, true, 0);
        due("fates(5)", x.fates(5), 4);
        x.laws(16, true, 0);
        due("fates(3)", x.fates(3), 5);
        x.motion(1);
        due("fates(1)", x.fates(1), 6);
        x.motion(2);
        due("fates(1) by PLACES", x.fates(1), 2);
        sentence(21, "BAD.");
        range("fates(..)", (y, v) -> y.fates(v), 0, 6, 6, 0, BAD);
        LayerSounder none = new LayerSounder();
        for (int fate = 0; fate <= 6; fate++) {
            due("fates(" + fate + ") of none", none.fates(fate), 0);
        }
        due("fates(7) of none", none.fates(7), BAD);
        due("fates(-1) of none", none.fates(-1), BAD);
        none.cells(16);
        for (int p = 0; p < 40; p++) {
            none.ping(0, 0, 0, 16);
        }
        due("fates(2) of 40 PINGS of 16", none.fates(2), 640);
    }

    // ---- boxes, flows

    private static void promise22Box() {
        sentence(22, "A BOX: 0 how many, 1 the sum EAST, 2 NORTH.");
        range("box(0, 2, 0, 1, ..)", (x, v) -> x.box(0, 2, 0, 1, v), 0, 6, 2, 42 * TWICE_TURNED, BAD_LONG);
        due("box(0, 2, 0, 1, 1)", sounder().box(0, 2, 0, 1, 1), 36 * TWICE_TURNED);
        LayerSounder x = sounder();
        unanswer(x, 1, 1);
        due("a CELL that is not GOOD: how many", x.box(1, 1, 1, 1, 0), 0);
        due("a CELL that is not GOOD: EAST", x.box(1, 1, 1, 1, 1), 0);
        due("a CELL that is not GOOD: NORTH", x.box(1, 1, 1, 1, 2), 0);
        due("all but that: how many", x.box(0, 2, 0, 1, 0), 5);
        due("all but that: EAST", x.box(0, 2, 0, 1, 1), 29 * TWICE_TURNED);
        sentence(22, "BAD: p to q, c to d not such, what.");
        range("box(.., 2, 0, 1, 0)", (y, v) -> y.box(v, 2, 0, 1, 0), 0, 6, 2, 2, BAD_LONG);
        range("box(0, .., 0, 1, 0)", (y, v) -> y.box(0, v, 0, 1, 0), 0, 2, 2, 6, BAD_LONG);
        range("box(0, 2, .., 1, 0)", (y, v) -> y.box(0, 2, v, 1, 0), 0, 6, 1, 3, BAD_LONG);
        range("box(0, 2, 0, .., 0)", (y, v) -> y.box(0, 2, 0, v, 0), 0, 3, 1, 6, BAD_LONG);
        due("p beyond q", sounder().box(2, 1, 0, 1, 0), BAD_LONG);
        due("c beyond d", sounder().box(0, 2, 1, 0, 0), BAD_LONG);
        due("p, q both not there", sounder().box(3, 3, 0, 1, 0), BAD_LONG);
        due("c, d both not there", sounder().box(0, 2, 2, 2, 0), BAD_LONG);
        due("p, q both below 0", sounder().box(-1, -1, 0, 1, 0), BAD_LONG);
        due("c, d both below 0", sounder().box(0, 2, -1, -1, 0), BAD_LONG);
        due("box(0, 0, 0, 0, 0) of none", new LayerSounder().box(0, 0, 0, 0, 0), BAD_LONG);
        boxOfMost();
    }

    private static void boxOfMost() {
        LayerSounder x = new LayerSounder();
        x.cells(16);
        for (int p = 0; p < 40; p++) {
            x.ping(0, 0, 0, 16);
        }
        for (int b = 0; b < 4; b++) {
            x.reel(b, 0, 200);
        }
        x.put(0, 0, 199, 5);
        due("box(0, 39, 0, 15, 0): as many as have items", x.box(0, 39, 0, 15, 0), 200);
        due("box(0, 39, 0, 15, 1)", x.box(0, 39, 0, 15, 1), 5 * TWICE_TURNED);
        due("box(39, 39, 15, 15, 0)", x.box(39, 39, 15, 15, 0), 0);
        due("box(12, 12, 7, 7, 1): item 199", x.box(12, 12, 7, 7, 1), 5 * TWICE_TURNED);
        due("box(0, 40, 0, 15, 0)", x.box(0, 40, 0, 15, 0), BAD_LONG);
        due("box(0, 39, 0, 16, 0)", x.box(0, 39, 0, 16, 0), BAD_LONG);
    }

    private static void promise23Mean() {
        sentence(23, "The mean EAST (what = 1), NORTH (2) of a BOX: the sum by how many, rounded down.");
        range("mean(0, 2, 0, 1, ..)", (x, v) -> x.mean(0, 2, 0, 1, v), 1, 6 * TWICE_TURNED, 2, 7 * TWICE_TURNED, BAD_LONG);
        meansAre(3, 4225, 1408, -1409);
        meansAre(2, 4225, 2112, -2113);
        meansAre(1, 4225, 4225, -4225);
        meansAre(5, 4225, 845, -845);
        sentence(23, "BAD; NOT: there are none.");
        range("mean(.., 2, 0, 0, 1)", (x, v) -> x.mean(v, 2, 0, 0, 1), 0, 5 * TWICE_TURNED, 2, 9 * TWICE_TURNED, BAD_LONG);
        range("mean(0, .., 0, 0, 1)", (x, v) -> x.mean(0, v, 0, 0, 1), 0, TWICE_TURNED, 2, 5 * TWICE_TURNED, BAD_LONG);
        range("mean(0, 0, .., 1, 1)", (x, v) -> x.mean(0, 0, v, 1, 1), 0, 2 * TWICE_TURNED, 1, 3 * TWICE_TURNED, BAD_LONG);
        range("mean(0, 0, 0, .., 1)", (x, v) -> x.mean(0, 0, 0, v, 1), 0, TWICE_TURNED, 1, 2 * TWICE_TURNED, BAD_LONG);
        due("p beyond q", sounder().mean(2, 1, 0, 1, 1), BAD_LONG);
        due("c beyond d", sounder().mean(0, 2, 1, 0, 1), BAD_LONG);
        due("how many has no mean", sounder().mean(0, 2, 0, 1, 0), BAD_LONG);
        LayerSounder x = sounder();
        unanswer(x, 1, 1);
        due("there are none", x.mean(1, 1, 1, 1, 1), NOT_LONG);
        due("there are none", x.mean(1, 1, 1, 1, 2), NOT_LONG);
        due("there is one", x.mean(1, 1, 0, 1, 1), 5 * TWICE_TURNED);
        due("BAD ahead of NOT: what", x.mean(1, 1, 1, 1, 0), BAD_LONG);
        due("BAD ahead of NOT: what", x.mean(1, 1, 1, 1, 3), BAD_LONG);
        due("BAD ahead of NOT: d", x.mean(1, 1, 1, 2, 1), BAD_LONG);
    }

    /** One of so many CELLS has ALONG 1, the others 0; then -1. */
    private static void meansAre(int many, long sum, long mean, long meanBelow) {
        LayerSounder x = new LayerSounder();
        x.cells(many);
        for (int b = 0; b < 4; b++) {
            x.reel(b, 0, many);
        }
        x.ping(0, 0, 0, 16);
        due("mean of 0 by " + many, x.mean(0, 0, 0, many - 1, 1), 0);
        x.put(0, 0, 0, 1);
        due("the sum", x.box(0, 0, 0, many - 1, 1), sum);
        due("mean of " + sum + " by " + many, x.mean(0, 0, 0, many - 1, 1), mean);
        x.mend(0, 18);
        due("mean of " + -sum + " by " + many, x.mean(0, 0, 0, many - 1, 1), meanBelow);
        x.mend(0, 27);
        due("mean NORTH of " + -sum + " by " + many, x.mean(0, 0, 0, many - 1, 2), meanBelow);
    }

    private static void promise24Flow() {
        sentence(24, "THE FLOW over PINGS p to q with EDGES 0 or 1. BAD.");
        // PING 0: 4 times 20 less 6 times 10; PING 1: 12 times 30 less 14 times 20.
        long first = 20 * TWICE_TURNED;
        long second = 80 * TWICE_TURNED;
        range("flow(0, .., 0)", (x, v) -> x.flow(0, v, 0), 1, first, 2, first + second, BAD_LONG);
        range("flow(.., 2, 0)", (x, v) -> x.flow(v, 2, 0), 0, first + second, 1, second, BAD_LONG);
        range("flow(0, 2, ..)", (x, v) -> x.flow(0, 2, v), 0, first + second, 1, first + second, BAD_LONG);
        refused("flow(.., .., 0)", (x, v) -> x.flow(v, v, 0), BAD_LONG, -1, 0, 1, 2, 3);
        refused("flow(1, .., 1)", (x, v) -> x.flow(1, v, 1), BAD_LONG, 0, 1, 3);
        due("flow(0, 1, 0) of none", new LayerSounder().flow(0, 1, 0), BAD_LONG);
        LayerSounder one = new LayerSounder();
        one.ping(0, 0, 0, 0);
        due("flow(0, 0, 0) of one", one.flow(0, 0, 0), BAD_LONG);
        due("flow(0, 1, 0) of one", one.flow(0, 1, 0), BAD_LONG);
        one.ping(0, 5, 5, 0);
        due("flow(0, 1, 0) with no GOOD CELL", one.flow(0, 1, 0), 0);
        due("flow(0, 1, 1) with no GOOD CELL", one.flow(0, 1, 1), 0);
        LayerSounder full = forty();
        due("flow(0, 39, 0) of 40", full.flow(0, 39, 0), 0);
        due("flow(0, 40, 0) of 40", full.flow(0, 40, 0), BAD_LONG);
        LayerSounder x = sounder();
        unanswer(x, 0, 0);
        due("EDGES 0: CELL 1 alone: 3 20 less 4 10", x.flow(0, 1, 0), 20 * TWICE_TURNED);
        due("EDGES 1: CELL 0 has its PACE", x.flow(0, 1, 1), 40 * TWICE_TURNED);
    }

    private static void promise25Askew() {
        sentence(25, "ASKEW: the TURN (THE SKEW stays).");
        LayerSounder x = sounder();
        x.skew(35);
        due("askew(0, 2, 0, 2): the same PINGS", x.askew(0, 2, 0, 2), 0);
        due("THE SKEW stays", x.count(3), 35);
        due("askew(0, 0, 2, 2): 8 8 is least at 0", x.askew(0, 0, 2, 2), 0);
        due("THE SKEW stays", x.count(3), 35);
        sentence(25, "BAD: the PINGS; NOT: one of both has no GOOD CELL with the SKEW as it is.");
        range("askew(.., 2, 0, 0)", (y, v) -> y.askew(v, 2, 0, 0), 0, 0, 2, 0, BAD);
        range("askew(0, .., 0, 0)", (y, v) -> y.askew(0, v, 0, 0), 0, 0, 2, 0, BAD);
        range("askew(0, 0, .., 2)", (y, v) -> y.askew(0, 0, v, 2), 0, 0, 2, 0, BAD);
        range("askew(0, 0, 0, ..)", (y, v) -> y.askew(0, 0, 0, v), 0, 0, 2, 0, BAD);
        due("p beyond q", x.askew(1, 0, 0, 2), BAD);
        due("r beyond s", x.askew(0, 2, 2, 1), BAD);
        due("askew(0, 0, 0, 0) of none", new LayerSounder().askew(0, 0, 0, 0), BAD);
        due("40 PINGS without a GOOD CELL", forty().askew(0, 39, 0, 39), NOT);
        due("BAD ahead of NOT", forty().askew(0, 39, 0, 40), BAD);
        unanswer(x, 1, 0);
        due("one GOOD CELL is enough", x.askew(1, 1, 0, 0) >= 0 ? 1 : 0, 1);
        unanswer(x, 1, 1);
        due("the first has none", x.askew(1, 1, 0, 0), NOT);
        due("the second has none", x.askew(0, 0, 1, 1), NOT);
        due("both have none", x.askew(1, 1, 1, 1), NOT);
        due("BAD ahead of NOT", x.askew(1, 1, 0, 3), BAD);
        due("BAD ahead of NOT", x.askew(-1, 1, 1, 1), BAD);
        due("a PING beside it has one", x.askew(1, 2, 0, 1) >= 0 ? 1 : 0, 1);
        x.motion(2);
        due("the last has no OWN, so no GOOD CELL", x.askew(0, 0, 2, 2), NOT);
    }

    private static void promise26Closes() {
        sentence(26, "The least PING from p + 2 on whose PLACE is within by (0 to 1000000) of that of PING p, X and Y each; NONE.");
        LayerSounder x = new LayerSounder();
        int[][] places = {{0, 0}, {0, 0}, {3, 0}, {0, -3}, {-4, 4}, {4, -5}, {0, 0}, {0, 0}};
        for (int[] place : places) {
            x.ping(0, place[0], place[1], 0);
        }
        due("closes(0, 0): neither itself nor the next one", x.closes(0, 0), 6);
        due("closes(0, 2)", x.closes(0, 2), 6);
        due("closes(0, 3): just within, X", x.closes(0, 3), 2);
        due("closes(1, 3): just within, Y", x.closes(1, 3), 3);
        due("closes(1, 2)", x.closes(1, 2), 6);
        due("closes(2, 3): not 4, -5, whose Y is 5 away", x.closes(2, 3), 6);
        due("closes(2, 7): -4 of 3 is 7", x.closes(2, 7), 4);
        due("closes(2, 6): -4 of 3 is not within 6, but 4, -5 is", x.closes(2, 6), 5);
        due("closes(3, 1)", x.closes(3, 1), NONE);
        due("closes(5, 1000000), the last two ahead", x.closes(5, 1000000), 7);
        due("closes(5, 4): X is within, Y is not", x.closes(5, 4), NONE);
        due("closes(5, 5)", x.closes(5, 5), 7);
        due("closes(6, 1000000): p + 2 is not there", x.closes(6, 1000000), NONE);
        due("closes(7, 1000000): nor is p + 1", x.closes(7, 1000000), NONE);
        closesFarthest();
        sentence(26, "BAD.");
        range("closes(.., 1000)", (y, v) -> y.closes(v, 1000), 0, 2, 2, NONE, BAD);
        range("closes(0, ..)", (y, v) -> y.closes(0, v), 0, NONE, 1000000, 2, BAD);
        due("closes(0, 0) of none", new LayerSounder().closes(0, 0), BAD);
        due("closes(37, 0) of 40", forty().closes(37, 0), 39);
        due("closes(38, 0) of 40", forty().closes(38, 0), NONE);
        due("closes(39, 0) of 40", forty().closes(39, 0), NONE);
        due("closes(40, 0) of 40", forty().closes(40, 0), BAD);
    }

    private static void closesFarthest() {
        LayerSounder x = new LayerSounder();
        int[][] places = {{-1000000, 1000000}, {0, 0}, {1, 0}, {0, -1}, {1000000, -1000000}, {0, 0}};
        for (int[] place : places) {
            x.ping(0, place[0], place[1], 0);
        }
        due("1000001 is not within 1000000, X nor Y; 1000000 is", x.closes(0, 1000000), 5);
        due("999999 is less", x.closes(0, 999999), NONE);
        due("from the other side", x.closes(2, 999999), 5);
        due("1000000 of 1 is within 999999, 1000000 of 0 is not", x.closes(2, 1000000), 4);
    }

    private static void promise27Count() {
        sentence(27, "5 the number of the latest FINDING (0 before any)");
        LayerSounder x = sounder();
        due("before any", x.count(5), 0);
        x.reel(0, 0, -1);
        due("5", x.count(5), 5);
        x.lose(7);
        due("1, the latest", x.count(5), 1);
        x.lose(8);
        due("BAD is none", x.count(5), 1);
        sentence(27, "0 PINGS, 1 L, 2 how OWN is told, 3 THE SKEW, 4 EDGE");
        LayerSounder most = new LayerSounder();
        most.cells(16);
        for (int p = 0; p < 40; p++) {
            most.ping(0, 0, 0, 0);
        }
        most.motion(2);
        most.skew(35);
        most.laws(16, false, 100000);
        most.reel(0, 0, -1);
        int[] atMost = {40, 16, 2, 35, 16, 5, 100000, 0};
        int[] atFirst = {0, 4, 0, 0, 0, 0, 1000, 1};
        LayerSounder fresh = new LayerSounder();
        for (int what = 0; what < 8; what++) {
            due("count(" + what + ") at most", most.count(what), atMost[what]);
            due("count(" + what + ") at first", fresh.count(what), atFirst[what]);
        }
        sentence(27, "7 whether THREES are taken (1, 0). BAD.");
        range("count(..)", (y, v) -> y.count(v), 0, 3, 7, 1, BAD);
    }

    private static void promise28Digest() {
        sentence(28, "h is 17; h becomes 31 h and each of: count() 0 to 4, 6, 7");
        LayerSounder x = new LayerSounder();
        due("no PINGS", x.digest(), folded(17, 0, 4, 0, 0, 0, 1000, 1));
        x.lose(0);
        due("count() 5 is not in it", x.digest(), folded(17, 0, 4, 0, 0, 0, 1000, 1));
        x.reel(0, 0, 5);
        due("REELS that no CELL reads are not in it", x.digest(), folded(17, 0, 4, 0, 0, 0, 1000, 1));
        x.cells(16);
        x.motion(2);
        x.skew(35);
        x.laws(16, false, 100000);
        due("no PINGS, all else at its most", x.digest(), folded(17, 0, 16, 2, 35, 16, 100000, 0));
        sentence(28, "of each PING about() 0 to 4, of each CELL fate(), and, where it is 0, both PACES");
        LayerSounder y = sounder();
        y.motion(2);
        y.laws(0, true, 0);
        unanswer(y, 0, 0);
        y.put(2, 2, 1, 3);
        long h = folded(17, 3, 2, 2, 0, 0, 0, 1);
        h = folded(h, 0, 0, 0, 2, 1, 2, 0, (3 - 10) * TWICE_TURNED, (3 - 20) * TWICE_TURNED);
        h = folded(h, 0, 10, 20, 2, 1, 5, 5);
        h = folded(h, 0, 30, 50, 2, 0, 1, 1);
        due("FATES 2, 0, 5, 5, 1, 1", y.digest(), h);
        sentence(28, "as longs that wrap");
        LayerSounder full = new LayerSounder();
        BigInteger sum = BigInteger.valueOf(folded(17, 40, 4, 0, 0, 0, 1000, 1));
        for (int p = 0; p < 40; p++) {
            full.ping(35, -1000000, 1000000, 16);
            for (int v : new int[] {35, -1000000, 1000000, 16, 1, 2, 2, 2, 2}) {
                sum = sum.multiply(BigInteger.valueOf(31)).add(BigInteger.valueOf(v));
            }
        }
        due("40 PINGS", full.digest(), sum.longValue());
        due("40 PINGS once more", full.digest(), sum.longValue());
    }

    private static long folded(long h, long... values) {
        long sum = h;
        for (long v : values) {
            sum = 31 * sum + v;
        }
        return sum;
    }
}
