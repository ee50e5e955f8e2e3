import java.math.BigInteger;

/**
 * The boundary cases that the document's 'What it is' and 'Terms' name. Each
 * method is one sentence, told with sentence(part, its words): the last value that
 * is taken and the first that is refused on each side, what is empty, what is
 * full, what wraps around. No object is used for more than 512 calls.
 */
public final class LayerSounderTermBounds {
    private static final int LEAST = Integer.MIN_VALUE, MOST = Integer.MAX_VALUE;
    private static final int BAD = -2, NOT = -3, FULL = -4;
    private static final int NULL = -11, INDEX = -12, CAST = -13, STORE = -14, SIZE = -15;
    private static final long BAD_LONG = Long.MIN_VALUE + 2, NOT_LONG = Long.MIN_VALUE + 3;
    private static final int NO_READING = -128;
    private static final long TWICE_TURNED = 4225;

    private static int wrong = 0;
    private static String told = "";

    public static void main(String[] args) {
        calls512();
        turns();
        cAndS();
        nineTurnsMore();
        wholeLength();
        turnedFarthest();
        reelsAreLostAtFirst();
        forms();
        items();
        findings();
        noneReadings();
        noneNotThere();
        pings40();
        cells1To16();
        itemOfCell();
        itemOfBottom();
        whatPingHas();
        widestBeams();
        three();
        moreLost();
        skewAtFirst();
        skewAndHeadingWrap();
        ownByNone();
        ownByBottom();
        ownByPlaces();
        paceFarthest();
        fateFirstThatFits();
        fateEdge();
        fateThrees();
        fateBound();
        fateAlongAcross();
        boxEdges();
        flowSteps();
        flowEdges();
        flowBelow();
        flowBetween();
        flowLong();
        askewEachTurn();
        askewLikeMisses();
        askewHowMany();
        askewLong();
        refusals();
        longRefusals();
        System.out.println(wrong == 0 ? "all terms hold at their bounds" : wrong + " answers are not as due");
        if (wrong != 0) {
            System.exit(1);
        }
    }

    // ---- what the tests are made of

    private interface Call {
        long on(LayerSounder x, int v);
    }

    private static void sentence(String part, String words) {
        told = part + " '" + words + "'";
    }

    private static void due(String call, long got, long want) {
        if (got != want) {
            wrong++;
            System.out.println(told + ": " + call + " answered " + got + ", due is " + want);
        }
    }

    /** The last values that are taken, and the first and the farthest that are refused; each on a sounder of its own. */
    private static void range(String call, Call f, int least, long atLeast, int most, long atMost, long refusal) {
        due(call + " with " + least, f.on(sounder(), least), atLeast);
        due(call + " with " + most, f.on(sounder(), most), atMost);
        for (int v : new int[] {least - 1, most + 1, LEAST, MOST}) {
            due(call + " with " + v, f.on(sounder(), v), refusal);
        }
    }

    /** Two PINGS of one CELL: ALONG 3, ACROSS 5, GOOD; HEADINGS 0; PLACES 0 0, 65 0. */
    private static LayerSounder sounder() {
        LayerSounder x = paces(1, new int[] {3, 3}, new int[] {5, 5});
        x.ping(0, 0, 0, 1);
        x.ping(0, 65, 0, 1);
        return x;
    }

    /** The CELLS' BEAMS as ints: the second and the fourth read 0, so ODD is ALONG less ACROSS; BOUND 100000. */
    private static LayerSounder paces(int cells, int[] along, int[] across) {
        LayerSounder x = new LayerSounder();
        x.cells(cells);
        x.laws(0, true, 100000);
        fill(x, 0, 2, along);
        x.reel(1, 2, along.length);
        fill(x, 2, 2, across);
        x.reel(3, 2, along.length);
        return x;
    }

    private static void fill(LayerSounder x, int r, int form, int... items) {
        x.reel(r, form, items.length);
        for (int i = 0; i < items.length; i++) {
            x.put(r, form, i, items[i]);
        }
    }

    /** One CELL of one PING, of DEPTH 1, that has these four BEAMS; BOUND 100000. */
    private static LayerSounder cell(int a, int b, int c, int d) {
        LayerSounder x = new LayerSounder();
        x.cells(1);
        x.laws(0, true, 100000);
        fill(x, 0, 2, a);
        fill(x, 1, 2, b);
        fill(x, 2, 2, c);
        fill(x, 3, 2, d);
        x.ping(0, 0, 0, 1);
        return x;
    }

    /** C, S of a TURN, as the document tells them: nine, and each quarter from the one before. */
    private static int[] cs(int turn) {
        int[][] nine = {{65, 0}, {63, 16}, {60, 25}, {56, 33}, {52, 39}, {39, 52}, {33, 56}, {25, 60}, {16, 63}};
        int[] cs = nine[turn % 9];
        for (int quarter = 0; quarter < turn / 9; quarter++) {
            cs = new int[] {-cs[1], cs[0]};
        }
        return cs;
    }

    // ---- What it is

    private static void calls512() {
        sentence("What it is", "An object is used for at most 512 calls after it has been made");
        LayerSounder x = sounder();
        int calls = 12;
        long fresh = sounder().digest();
        for (; calls < 510; calls++) {
            due("call " + (calls + 1) + ", skew", x.skew(calls % 36), calls == 12 ? 0 : (calls - 1) % 36);
        }
        due("call 511", x.skew(0), 509 % 36);
        due("call 512", x.digest(), fresh);
    }

    // ---- Terms 1

    private static void turns() {
        sentence("Terms 1", "TURNS are 0 .. 35");
        range("ping(.., 0, 0, 0)", (x, v) -> x.ping(v, 0, 0, 0), 0, 2, 35, 2, BAD);
        range("mend(1, ..)", (x, v) -> x.mend(1, v), 0, 0, 35, 0, BAD);
        range("skew(..)", (x, v) -> x.skew(v), 0, 0, 35, 0, BAD);
        range("turned(1, 0, .., 0)", (x, v) -> x.turned(1, 0, v, 0), 0, 65, 35, 63, LEAST);
        range("turned(1, 0, .., 1)", (x, v) -> x.turned(1, 0, v, 1), 0, 0, 35, -16, LEAST);
    }

    private static void cAndS() {
        sentence("Terms 1", "of TURN 0 .. 8 C and S are 65 0, 63 16, 60 25, 56 33, 52 39, 39 52, 33 56, 25 60, 16 63");
        int[] c = {65, 63, 60, 56, 52, 39, 33, 25, 16};
        int[] s = {0, 16, 25, 33, 39, 52, 56, 60, 63};
        LayerSounder x = new LayerSounder();
        for (int turn = 0; turn < 9; turn++) {
            due("C of " + turn, x.turned(1, 0, turn, 0), c[turn]);
            due("S of " + turn, x.turned(1, 0, turn, 1), s[turn]);
        }
    }

    private static void nineTurnsMore() {
        sentence("Terms 1", "9 TURNS more make of C, S: -S, C");
        LayerSounder x = new LayerSounder();
        for (int turn = 0; turn < 36; turn++) {
            // Nine more than 27 .. 35 come round to 0 .. 8 again.
            int more = (turn + 9) % 36;
            due("C of " + more, x.turned(1, 0, more, 0), -x.turned(1, 0, turn, 1));
            due("S of " + more, x.turned(1, 0, more, 1), x.turned(1, 0, turn, 0));
        }
        int[] last = {63, -16};
        due("C of 35", x.turned(1, 0, 35, 0), last[0]);
        due("S of 35", x.turned(1, 0, 35, 1), last[1]);
    }

    private static void wholeLength() {
        sentence("Terms 1", "(Each is a whole 65 long.)");
        LayerSounder x = new LayerSounder();
        for (int turn = 0; turn < 36; turn++) {
            int c = x.turned(1, 0, turn, 0);
            int s = x.turned(1, 0, turn, 1);
            due("C C and S S of " + turn, c * c + s * s, 65 * 65);
        }
    }

    private static void turnedFarthest() {
        sentence("Terms 1", "X, Y TURNED by one are C X less S Y, and S X and C Y (65 times as long)");
        int far = 1000000;
        for (int turn = 0; turn < 36; turn++) {
            LayerSounder x = new LayerSounder();
            int c = cs(turn)[0];
            int s = cs(turn)[1];
            due("turned(far, far, " + turn + ", 0)", x.turned(far, far, turn, 0), (c - s) * far);
            due("turned(far, far, " + turn + ", 1)", x.turned(far, far, turn, 1), (s + c) * far);
            due("turned(-far, far, " + turn + ", 0)", x.turned(-far, far, turn, 0), (-c - s) * far);
            due("turned(far, -far, " + turn + ", 1)", x.turned(far, -far, turn, 1), (s - c) * far);
            due("turned(0, 0, " + turn + ", 0)", x.turned(0, 0, turn, 0), 0);
            due("turned(0, 0, " + turn + ", 1)", x.turned(0, 0, turn, 1), 0);
        }
    }

    private static void reelsAreLostAtFirst() {
        sentence("Terms 1", "REELS 0 .. 7 are LOST (at first)");
        for (int r = 0; r <= 7; r++) {
            LayerSounder x = new LayerSounder();
            due("lose(" + r + ")", x.lose(r), NULL);
            due("put(" + r + ", 0, 0, 0)", x.put(r, 0, 0, 0), NULL);
            due("copy(" + r + ", 0, " + r + ", 0, 0)", x.copy(r, 0, r, 0, 0), NULL);
            due("reel(" + r + ", 0, 1)", x.reel(r, 0, 1), 1);
            due("lose(" + r + ") after it", x.lose(r), 1);
        }
        for (int r : new int[] {-1, 8, LEAST, MOST}) {
            LayerSounder x = new LayerSounder();
            due("reel(" + r + ", 0, 1)", x.reel(r, 0, 1), BAD);
            due("lose(" + r + ")", x.lose(r), BAD);
            due("put(" + r + ", 0, 0, 0)", x.put(r, 0, 0, 0), BAD);
            due("get(" + r + ", 0, 0)", x.get(r, 0, 0), LEAST);
            due("copy(" + r + ", 0, 0, 0, 0)", x.copy(r, 0, 0, 0, 0), BAD);
            due("copy(0, 0, " + r + ", 0, 0)", x.copy(0, 0, r, 0, 0), BAD);
            due("none of them is a FINDING", x.count(5), 0);
        }
    }

    private static void forms() {
        sentence("Terms 1", "a row of a FORM: 0 bytes, 1 shorts, 2 ints");
        int[][] most = {{127, -128}, {32767, -32768}, {MOST, LEAST}};
        for (int form = 0; form <= 2; form++) {
            LayerSounder x = new LayerSounder();
            int last = most[form][0];
            int first = most[form][1];
            fill(x, 0, form, last, first, last + 1, first - 1);
            due("the most of FORM " + form, x.get(0, form, 0), last);
            due("the least of FORM " + form, x.get(0, form, 1), first);
            due("one more comes round to the least", x.get(0, form, 2), first);
            due("one less comes round to the most", x.get(0, form, 3), last);
        }
        for (int form : new int[] {-1, 3, LEAST, MOST}) {
            LayerSounder x = sounder();
            due("reel(0, " + form + ", 1)", x.reel(0, form, 1), BAD);
            due("put(0, " + form + ", 0, 0)", x.put(0, form, 0, 0), BAD);
            due("get(0, " + form + ", 0)", x.get(0, form, 0), LEAST);
            due("none of them is a FINDING", x.count(5), 0);
        }
    }

    private static void items() {
        sentence("Terms 1", "of 0 to 200 items (0 at first)");
        for (int form = 0; form <= 2; form++) {
            int of = form;
            sizes("reel(0, " + form + ", ..)", (x, v) -> x.reel(0, of, v));
            LayerSounder x = new LayerSounder();
            x.reel(0, form, 200);
            for (int i = 0; i < 200; i++) {
                due("item " + i + " at first", x.get(0, form, i), 0);
            }
            due("item 200", x.put(0, form, 200, 1), INDEX);
            x.put(0, form, 0, 1);
            x.put(0, form, 199, 1);
            x.reel(0, form, 200);
            due("item 0 of the new row", x.get(0, form, 0), 0);
            due("item 199 of the new row", x.get(0, form, 199), 0);
            x.reel(0, form, 0);
            due("item 0 of an empty row", x.put(0, form, 0, 1), INDEX);
            due("an empty row is not LOST", x.lose(0), 0);
        }
    }

    /** The refusals on both sides are unlike: below is SIZE, above BAD. */
    private static void sizes(String call, Call f) {
        due(call + " with 0", f.on(sounder(), 0), 0);
        due(call + " with 200", f.on(sounder(), 200), 200);
        due(call + " with -1", f.on(sounder(), -1), SIZE);
        due(call + " with " + LEAST, f.on(sounder(), LEAST), SIZE);
        due(call + " with 201", f.on(sounder(), 201), BAD);
        due(call + " with " + MOST, f.on(sounder(), MOST), BAD);
    }

    private static void findings() {
        sentence("Terms 1", "FINDINGS (answers -10 less the number; they change nothing but count() 5)");
        LayerSounder x = new LayerSounder();
        due("count(5) before any", x.count(5), 0);
        fill(x, 0, 0, 7);
        fill(x, 1, 1, 7);
        due("1 NULL: the REEL is LOST", x.put(2, 0, 0, 9), -11);
        due("count(5)", x.count(5), 1);
        due("2 INDEX: there is no such item", x.put(0, 0, 1, 9), -12);
        due("count(5)", x.count(5), 2);
        due("3 CAST: it has another FORM", x.put(0, 1, 0, 9), -13);
        due("count(5)", x.count(5), 3);
        due("4 STORE: unlike FORMS", x.copy(0, 0, 1, 0, 1), -14);
        due("count(5)", x.count(5), 4);
        due("5 SIZE: below 0", x.reel(0, 0, -1), -15);
        due("count(5)", x.count(5), 5);
        due("what is no FINDING leaves it", x.put(0, 0, 0, 7), 1);
        due("count(5)", x.count(5), 5);
        due("BAD leaves it", x.put(8, 0, 0, 7), BAD);
        due("count(5)", x.count(5), 5);
        due("the first again", x.lose(2), -11);
        due("count(5)", x.count(5), 1);
        due("REEL 0 is as it was", x.get(0, 0, 0), 7);
        due("REEL 1 is as it was", x.get(1, 1, 0), 7);
        due("REEL 0 has as many", x.lose(0), 1);
    }

    private static void noneReadings() {
        sentence("Terms 1", "it is NONE, if it is -128 or below, or above 20000");
        int[] taken = {-127, -1, 0, 20000};
        int[] none = {-128, -129, LEAST, 20001, MOST};
        for (int b = 0; b < 4; b++) {
            for (int v : taken) {
                due("BEAM " + b + " reads " + v + ": a THREE", cellWith(b, v).answer(at(b, 0, v), at(b, 1, v), at(b, 2, v), at(b, 3, v), 3), 0);
                due("BEAM " + b + " of a CELL reads " + v, threeOf(cellWith(b, v)), 0);
                due("BEAM " + b + " of a BOTTOM reads " + v, threeOfBottom(b, v), 0);
            }
            for (int v : none) {
                due("BEAM " + b + " reads " + v + ": a THREE", cellWith(b, v).answer(at(b, 0, v), at(b, 1, v), at(b, 2, v), at(b, 3, v), 3), 1);
                due("BEAM " + b + " of a CELL reads " + v, threeOf(cellWith(b, v)), 1);
                due("BEAM " + b + " of a BOTTOM reads " + v, threeOfBottom(b, v), 1);
            }
        }
        noneByForm();
    }

    private static int at(int b, int beam, int v) {
        return b == beam ? v : 0;
    }

    private static LayerSounder cellWith(int b, int v) {
        return cell(at(b, 0, v), at(b, 1, v), at(b, 2, v), at(b, 3, v));
    }

    /** FATE 4 tells a THREE where these are not taken. */
    private static int threeOf(LayerSounder x) {
        x.laws(0, false, 100000);
        return x.fate(0, 0) == 4 ? 1 : 0;
    }

    /** A BOTTOM whose other BEAMS read 0 has a PACE that a THREE alone lacks: BEAM b is made 0 there. */
    private static int threeOfBottom(int b, int v) {
        LayerSounder x = new LayerSounder();
        x.ping(0, 0, 0, 1);
        for (int beam = 0; beam < 4; beam++) {
            fill(x, 4 + beam, 2, beam == b ? v : 0);
        }
        x.motion(1);
        int sign = b % 2 == 0 ? 1 : -1;
        long own = x.own(0, b / 2);
        due("OWN of that BOTTOM", own == 0 || own == sign * TWICE_TURNED * v ? 1 : 0, 1);
        return v == 0 ? 0 : own == 0 ? 1 : 0;
    }

    private static void noneByForm() {
        LayerSounder x = new LayerSounder();
        x.cells(4);
        x.ping(0, 0, 0, 16);
        x.laws(0, false, 100000);
        for (int r = 1; r < 4; r++) {
            x.reel(r, r - 1, 4);
        }
        // As a byte 128 is -128 and 129 is -127; as a short 85537 is 20001 and 85536 is 20000.
        fill(x, 0, 0, -128, 128, 129, 127);
        fatesAre(x, "bytes", 4, 4, 0, 0);
        fill(x, 0, 1, 85537, 85536, 32768, 65536 - 127);
        fatesAre(x, "shorts", 4, 0, 4, 0);
        fill(x, 0, 2, 65536, 20001, 20000, -1);
        fatesAre(x, "ints", 4, 4, 0, 0);
    }

    private static void fatesAre(LayerSounder x, String when, int... wants) {
        for (int c = 0; c < wants.length; c++) {
            due("fate(0, " + c + "), " + when, x.fate(0, c), wants[c]);
        }
    }

    private static void noneNotThere() {
        sentence("Terms 1", "or not there");
        for (int b = 0; b < 4; b++) {
            LayerSounder x = sounder();
            x.laws(0, false, 100000);
            due("all are there", x.fate(1, 0), 0);
            x.reel(b, 2, 1);
            due("REEL " + b + " ends ahead of the item", x.fate(1, 0), 4);
            due("the item ahead of it is there", x.fate(0, 0), 0);
            x.reel(b, 2, 0);
            due("REEL " + b + " is empty", x.fate(0, 0), 4);
            x.lose(b);
            due("REEL " + b + " is LOST", x.fate(0, 0), 4);
            x.lose((b + 1) % 4);
            due("two REELS are LOST", x.fate(0, 0), 2);
            due("no reading is a FINDING", x.count(5), 0);
        }
        LayerSounder x = sounder();
        x.motion(1);
        for (int b = 0; b < 3; b++) {
            due("a BOTTOM with " + b + " REELS", x.about(0, 4), 0);
            x.reel(4 + b, 0, 1);
        }
        due("a BOTTOM with three REELS", x.about(0, 4), 1);
        due("its next item is not there", x.about(1, 4), 0);
        due("no reading is a FINDING", x.count(5), 0);
    }

    // ---- Terms 2

    private static void pings40() {
        sentence("Terms 2", "There are up to 40 PINGS, numbered from 0");
        LayerSounder x = new LayerSounder();
        for (int p = 0; p < 40; p++) {
            due("PING " + p + " is not there yet", x.about(p, 1), LEAST);
            due("its number", x.ping(0, p, 0, 0), p);
            due("it is there", x.about(p, 1), p);
        }
        due("one more", x.ping(0, 0, 0, 0), FULL);
        due("count(0)", x.count(0), 40);
        due("about(40, 1)", x.about(40, 1), LEAST);
        due("about(-1, 1)", x.about(-1, 1), LEAST);
        due("clear()", x.clear(), 40);
        due("about(0, 1)", x.about(0, 1), LEAST);
        due("numbered from 0 again", x.ping(0, 0, 0, 0), 0);
    }

    private static void cells1To16() {
        sentence("Terms 2", "with L CELLS each (1 to 16, one number for all, told ahead of them; 4 at first), numbered from 0 down");
        LayerSounder x = new LayerSounder();
        x.ping(0, 0, 0, 0);
        due("4 at first", x.fates(2), 4);
        due("fate(0, 3)", x.fate(0, 3), 2);
        due("fate(0, 4)", x.fate(0, 4), BAD);
        for (int l : new int[] {1, 2, 15, 16}) {
            x.clear();
            due("cells(" + l + ")", x.cells(l) > 0 ? 1 : 0, 1);
            x.ping(0, 0, 0, 0);
            x.ping(0, 0, 0, 0);
            due("as many of each PING", x.fates(2), 2 * l);
            due("fate(1, 0)", x.fate(1, 0), 2);
            due("fate(1, " + (l - 1) + ")", x.fate(1, l - 1), 2);
            due("fate(1, " + l + ")", x.fate(1, l), BAD);
            due("fate(1, -1)", x.fate(1, -1), BAD);
            due("not behind them", x.cells(3), NOT);
        }
        x.clear();
        for (int l : new int[] {0, 17, -1, LEAST, MOST}) {
            due("cells(" + l + ")", x.cells(l), BAD);
        }
        due("L", x.count(1), 16);
    }

    private static void itemOfCell() {
        sentence("Terms 2", "BEAM b (0 .. 3) of CELL c of PING p is item L p + c of REEL b");
        for (int l : new int[] {1, 5, 16}) {
            LayerSounder x = new LayerSounder();
            x.cells(l);
            x.laws(0, false, 100000);
            for (int b = 0; b < 4; b++) {
                x.reel(b, 2, 200);
            }
            for (int p = 0; p < 40; p++) {
                x.ping(0, 0, 0, 16);
            }
            int lastPing = Math.min(39, 199 / l);
            int lastCell = Math.min(l - 1, 199 - l * lastPing);
            x.put(0, 2, l * lastPing + lastCell, 11);
            x.put(1, 2, l * lastPing + lastCell, 1);
            x.put(0, 2, 0, 22);
            x.put(3, 2, 0, -2);
            due("ALONG of CELL 0 of PING 0", x.pace(0, 0, 0), 22 * TWICE_TURNED);
            due("ACROSS of CELL 0 of PING 0", x.pace(0, 0, 1), 2 * TWICE_TURNED);
            due("ALONG of CELL " + lastCell + " of PING " + lastPing, x.pace(lastPing, lastCell, 0), 10 * TWICE_TURNED);
            due("the one ahead of it", x.pace(lastPing - 1, lastCell, 0), 0);
            due("all whose items are there", x.fates(0), Math.min(200, 40 * l));
            due("all whose items are not", x.fates(2), Math.max(0, 40 * l - 200));
        }
        itemsBeyond200();
    }

    private static void itemsBeyond200() {
        LayerSounder x = new LayerSounder();
        x.cells(16);
        for (int b = 0; b < 4; b++) {
            x.reel(b, 0, 200);
        }
        for (int p = 0; p < 40; p++) {
            x.ping(0, 0, 0, 16);
        }
        due("item 199: CELL 7 of PING 12", x.fate(12, 7), 0);
        due("item 200: CELL 8 of PING 12", x.fate(12, 8), 2);
        due("item 639: CELL 15 of PING 39", x.fate(39, 15), 2);
        due("its PACE", x.pace(39, 15, 0), NOT_LONG);
    }

    private static void itemOfBottom() {
        sentence("Terms 2", "BEAM b of its BOTTOM item p of REEL 4 + b");
        LayerSounder x = new LayerSounder();
        x.cells(16);
        for (int p = 0; p < 40; p++) {
            x.ping(0, 0, 0, 16);
        }
        for (int b = 0; b < 4; b++) {
            x.reel(4 + b, 2, b == 3 ? 40 : 39);
            x.put(4 + b, 2, 0, 100 + b * b);
            x.put(4 + b, 2, 38, 200 - b * b);
        }
        x.motion(1);
        due("ALONG of item 0", x.own(0, 0), -1 * TWICE_TURNED);
        due("ACROSS of item 0", x.own(0, 1), -5 * TWICE_TURNED);
        due("ALONG of item 38", x.own(38, 0), 1 * TWICE_TURNED);
        due("ACROSS of item 38", x.own(38, 1), 5 * TWICE_TURNED);
        due("one BEAM alone has item 39", x.own(39, 0), NOT_LONG);
        for (int b = 0; b < 2; b++) {
            x.reel(4 + b, 2, 40);
        }
        x.put(4, 2, 39, 50);
        x.put(7, 2, 39, 20);
        due("three BEAMS have item 39: ALONG", x.own(39, 0), 50 * TWICE_TURNED);
        due("three BEAMS have item 39: ACROSS 30 less 20", x.own(39, 1), 10 * TWICE_TURNED);
    }

    private static void whatPingHas() {
        sentence("Terms 2", "A PING has a HEADING (a TURN), a PLACE X, Y (-1000000 to 1000000), a DEPTH (0 to 16 CELLS)");
        range("ping(.., 0, 0, 0)", (x, v) -> x.ping(v, 0, 0, 0), 0, 2, 35, 2, BAD);
        range("ping(0, .., 0, 0)", (x, v) -> x.ping(0, v, 0, 0), -1000000, 2, 1000000, 2, BAD);
        range("ping(0, 0, .., 0)", (x, v) -> x.ping(0, 0, v, 0), -1000000, 2, 1000000, 2, BAD);
        range("ping(0, 0, 0, ..)", (x, v) -> x.ping(0, 0, 0, v), 0, 2, 16, 2, BAD);
        LayerSounder x = new LayerSounder();
        x.ping(35, -1000000, 1000000, 16);
        x.ping(0, 1000000, -1000000, 0);
        int[][] wants = {{35, -1000000, 1000000, 16}, {0, 1000000, -1000000, 0}};
        for (int p = 0; p < 2; p++) {
            for (int what = 0; what < 4; what++) {
                due("about(" + p + ", " + what + ")", x.about(p, what), wants[p][what]);
            }
        }
    }

    private static void widestBeams() {
        sentence("Terms 2", "ALONG is the first less the second, ACROSS the third less the fourth, ODD the first two together less the others");
        answersAre(20000, -127, 20000, -127, 20127, 20127, 0, 0);
        answersAre(-127, 20000, -127, 20000, -20127, -20127, 0, 0);
        answersAre(20000, 20000, -127, -127, 0, 0, 40254, 0);
        answersAre(-127, -127, 20000, 20000, 0, 0, -40254, 0);
        answersAre(0, 0, 0, 0, 0, 0, 0, 0);
    }

    private static void answersAre(int a, int b, int c, int d, int... wants) {
        LayerSounder x = new LayerSounder();
        for (int what = 0; what < 4; what++) {
            String call = "answer(" + a + ", " + b + ", " + c + ", " + d + ", " + what + ")";
            due(call, x.answer(a, b, c, d, what), wants[what]);
        }
    }

    private static void three() {
        sentence("Terms 2", "Where one is NONE, it is what makes ODD 0 (a THREE)");
        for (int none : new int[] {-128, 20001, LEAST, MOST}) {
            answersAre(none, 3, 20, 8, 22, 12, 0, 1);
            answersAre(10, none, 20, 8, -8, 12, 0, 1);
            answersAre(10, 3, none, 8, 7, -3, 0, 1);
            answersAre(10, 3, 20, none, 7, 27, 0, 1);
            // The one that is made may lie where a reading would be NONE.
            answersAre(none, -127, 20000, 20000, 40254, 0, 0, 1);
            answersAre(none, 20000, -127, -127, -40254, 0, 0, 1);
            answersAre(20000, 20000, -127, none, 0, -40254, 0, 1);
            answersAre(-127, -127, none, 20000, 0, -40254, 0, 1);
            // Nor is it lost where it is made just so: -128, 20001.
            answersAre(none, 0, -127, -1, -128, -126, 0, 1);
            answersAre(none, 0, 20000, 1, 20001, 19999, 0, 1);
        }
    }

    private static void moreLost() {
        sentence("Terms 2", "where more are, there is no answer");
        for (int lost = 0; lost < 16; lost++) {
            int a = (lost & 1) != 0 ? -128 : 5;
            int b = (lost & 2) != 0 ? 20001 : 6;
            int c = (lost & 4) != 0 ? LEAST : 7;
            int d = (lost & 8) != 0 ? MOST : 8;
            boolean more = Integer.bitCount(lost) > 1;
            LayerSounder x = cell(a, b, c, d);
            for (int what = 0; what < 4; what++) {
                due("answer with " + lost + " lost, " + what, x.answer(a, b, c, d, what) == LEAST ? 1 : 0, more ? 1 : 0);
            }
            due("fate with " + lost + " lost", x.fate(0, 0), more ? 2 : 0);
            due("pace with " + lost + " lost", x.pace(0, 0, 0) == NOT_LONG ? 1 : 0, more ? 1 : 0);
        }
    }

    private static void skewAtFirst() {
        sentence("Terms 2", "THE SKEW (a TURN, 0 at first)");
        LayerSounder x = sounder();
        due("count(3)", x.count(3), 0);
        due("pace(0, 0, 0)", x.pace(0, 0, 0), 3 * TWICE_TURNED);
        due("pace(0, 0, 1)", x.pace(0, 0, 1), 5 * TWICE_TURNED);
        range("skew(..)", (y, v) -> y.skew(v), 0, 0, 35, 0, BAD);
    }

    private static void skewAndHeadingWrap() {
        sentence("Terms 2", "TURNED by the SKEW, and that by the HEADING, ALONG and ACROSS (as X, Y) are EAST, NORTH of the CELL (4225 times as long)");
        LayerSounder x = sounder();
        for (int turn = 0; turn < 36; turn++) {
            x.mend(0, turn);
            // A TURN and what lacks of 36 are a whole way round.
            x.skew((36 - turn) % 36);
            due("EAST with HEADING " + turn, x.pace(0, 0, 0), 3 * TWICE_TURNED);
            due("NORTH with HEADING " + turn, x.pace(0, 0, 1), 5 * TWICE_TURNED);
            x.skew(35);
            int[] s = cs(35);
            int[] h = cs(turn);
            long east = s[0] * 3 - s[1] * 5;
            long north = s[1] * 3 + s[0] * 5;
            due("EAST with SKEW 35, HEADING " + turn, x.pace(0, 0, 0), h[0] * east - h[1] * north);
            due("NORTH with SKEW 35, HEADING " + turn, x.pace(0, 0, 1), h[1] * east + h[0] * north);
        }
    }

    private static void ownByNone() {
        sentence("Terms 2", "0 none: 0, 0");
        LayerSounder x = sounder();
        x.skew(35);
        for (int p = 0; p < 2; p++) {
            due("about(" + p + ", 4)", x.about(p, 4), 1);
            due("own(" + p + ", 0)", x.own(p, 0), 0);
            due("own(" + p + ", 1)", x.own(p, 1), 0);
        }
    }

    private static void ownByBottom() {
        sentence("Terms 2", "1 BOTTOM: EAST, NORTH of its BOTTOM, so of four or three BEAMS (no answer: the PING has no OWN)");
        for (int lost = 0; lost < 16; lost++) {
            LayerSounder x = sounder();
            int[] reads = {40, 10, 30, 20};
            for (int b = 0; b < 4; b++) {
                fill(x, 4 + b, 2, (lost >> b & 1) != 0 ? NO_READING : reads[b]);
            }
            x.motion(1);
            boolean has = Integer.bitCount(lost) <= 1;
            due("about(0, 4) with " + lost + " lost", x.about(0, 4), has ? 1 : 0);
            // The two pairs have the same sum, so that a THREE is like the four.
            due("own(0, 0) with " + lost + " lost", x.own(0, 0), has ? 30 * TWICE_TURNED : NOT_LONG);
            due("own(0, 1) with " + lost + " lost", x.own(0, 1), has ? 10 * TWICE_TURNED : NOT_LONG);
            due("pace(0, 0, 0) with " + lost + " lost", x.pace(0, 0, 0), has ? -27 * TWICE_TURNED : NOT_LONG);
            due("fate(0, 0) with " + lost + " lost", x.fate(0, 0), has ? 0 : 1);
        }
        LayerSounder x = sounder();
        fill(x, 4, 2, 20000);
        fill(x, 5, 2, -127);
        fill(x, 6, 2, -127);
        fill(x, 7, 2, 20000);
        x.motion(1);
        x.laws(16, false, 0);
        due("no law binds a BOTTOM: EAST", x.own(0, 0), 20127 * TWICE_TURNED);
        due("no law binds a BOTTOM: NORTH", x.own(0, 1), -20127 * TWICE_TURNED);
        x.lose(5);
        x.put(7, 2, 0, -127);
        due("nor a THREE of a BOTTOM: 20000 less -20254", x.own(0, 0), 40254 * TWICE_TURNED);
        x.mend(0, 9);
        x.skew(9);
        due("a BOTTOM turns by both: EAST", x.own(0, 0), -40254 * TWICE_TURNED);
    }

    private static void ownByPlaces() {
        sentence("Terms 2", "2 PLACES: 4225 times the PLACE of the PING behind it less that of its own (the last one has no OWN)");
        LayerSounder x = new LayerSounder();
        x.motion(2);
        x.ping(7, -1000000, 1000000, 1);
        due("the only PING is the last", x.own(0, 0), NOT_LONG);
        due("about(0, 4)", x.about(0, 4), 0);
        x.ping(0, 1000000, -1000000, 1);
        due("the farthest step EAST", x.own(0, 0), 8450000000L);
        due("the farthest step NORTH", x.own(0, 1), -8450000000L);
        due("about(0, 4)", x.about(0, 4), 1);
        due("the last", x.own(1, 0), NOT_LONG);
        x.ping(0, 1000000, -1000000, 1);
        due("no step at all EAST", x.own(1, 0), 0);
        due("no step at all NORTH", x.own(1, 1), 0);
        due("about(1, 4)", x.about(1, 4), 1);
        x.skew(35);
        due("no TURN turns it", x.own(0, 0), 8450000000L);
        for (int p = 3; p < 40; p++) {
            x.ping(0, p, 0, 0);
        }
        due("own(38, 0) of 40", x.own(38, 0), TWICE_TURNED);
        due("own(39, 0) of 40", x.own(39, 0), NOT_LONG);
        x.clear();
        x.ping(0, 3, 3, 0);
        due("PINGS that were cleared are not behind it", x.own(0, 0), NOT_LONG);
    }

    private static void paceFarthest() {
        sentence("Terms 2", "THE PACE of a CELL: its EAST and NORTH less OWN");
        LayerSounder x = paces(1, new int[] {20000, 0}, new int[] {20000, 0});
        x.ping(18, -1000000, -1000000, 1);
        x.ping(0, 1000000, 1000000, 1);
        x.motion(2);
        due("pace(0, 0, 0)", x.pace(0, 0, 0), -20000 * TWICE_TURNED - 8450000000L);
        due("pace(0, 0, 1)", x.pace(0, 0, 1), -20000 * TWICE_TURNED - 8450000000L);
        due("pace(1, 0, 0): no OWN", x.pace(1, 0, 0), NOT_LONG);
        x.motion(0);
        due("pace(1, 0, 0) by none", x.pace(1, 0, 0), 0);
    }

    // ---- Terms 3

    private static void fateFirstThatFits() {
        sentence("Terms 3", "FATES of a CELL, the first that fits");
        int lost = NO_READING;
        // What follows is told as: its PING has no OWN, EDGE, THREES, BOUND, the four BEAMS.
        due("1 ahead of 2", fateOf(true, 0, true, 0, lost, lost, 0, 0), 1);
        due("1 ahead of 3", fateOf(true, 16, true, 0, 0, 0, 0, 0), 1);
        due("1 ahead of 4", fateOf(true, 0, false, 0, lost, 0, 0, 0), 1);
        due("1 ahead of 5", fateOf(true, 0, true, 0, 1, 0, 0, 0), 1);
        due("1 ahead of 6", fateOf(true, 0, true, 100000, 20000, -1, 0, 0), 1);
        due("1 alone", fateOf(true, 0, true, 0, 0, 0, 0, 0), 1);
        due("2 ahead of 3", fateOf(false, 16, true, 0, lost, lost, 0, 0), 2);
        due("2, where THREES are not taken", fateOf(false, 0, false, 0, lost, lost, 0, 0), 2);
        due("2 alone", fateOf(false, 0, true, 0, 0, 0, lost, lost), 2);
        due("3 ahead of 4", fateOf(false, 16, false, 0, lost, 0, 0, 0), 3);
        due("3 ahead of 5", fateOf(false, 16, true, 0, 1, 0, 0, 0), 3);
        due("3 ahead of 6", fateOf(false, 16, true, 100000, 20000, -1, 0, 0), 3);
        due("3 alone", fateOf(false, 16, true, 0, 0, 0, 0, 0), 3);
        due("4 ahead of 6", fateOf(false, 0, false, 0, lost, -127, 20000, 20000), 4);
        due("4 alone", fateOf(false, 0, false, 0, lost, 0, 0, 0), 4);
        due("5 ahead of 6", fateOf(false, 0, true, 0, 20000, -1, 0, 0), 5);
        due("5 alone", fateOf(false, 0, true, 0, 1, 0, 0, 0), 5);
        due("6 alone", fateOf(false, 0, true, 0, lost, -127, 20000, 20000), 6);
        due("0 GOOD", fateOf(false, 0, false, 0, 0, 0, 0, 0), 0);
    }

    private static int fateOf(boolean noOwn, int edge, boolean threes, int bound, int... beams) {
        return withLaws(noOwn, edge, threes, bound, cell(beams[0], beams[1], beams[2], beams[3])).fate(0, 0);
    }

    /** By PLACES the only PING has no OWN. */
    private static LayerSounder withLaws(boolean noOwn, int edge, boolean threes, int bound, LayerSounder x) {
        x.motion(noOwn ? 2 : 0);
        x.laws(edge, threes, bound);
        return x;
    }

    private static void fateEdge() {
        sentence("Terms 3", "3 it is not above DEPTH less EDGE (its number c, and EDGE told, 0 to 16: c and EDGE together are DEPTH or more)");
        for (int depth = 0; depth <= 16; depth++) {
            LayerSounder x = new LayerSounder();
            x.cells(16);
            for (int b = 0; b < 4; b++) {
                x.reel(b, 0, 16);
            }
            x.ping(0, 0, 0, depth);
            for (int edge : new int[] {0, 1, 15, 16}) {
                x.laws(edge, true, 0);
                int good = Math.max(0, depth - edge);
                due("CELLS above, DEPTH " + depth + ", EDGE " + edge, x.fates(0), good);
                due("CELLS not above", x.fates(3), 16 - good);
                if (good > 0) {
                    due("the last above", x.fate(0, good - 1), 0);
                }
                if (good < 16) {
                    due("the first not above", x.fate(0, good), 3);
                }
            }
        }
        range("laws(.., true, 0)", (x, v) -> x.laws(v, true, 0), 0, 1, 16, 1, BAD);
    }

    private static void fateThrees() {
        sentence("Terms 3", "4 a THREE, where these are not taken (told; they are at first)");
        LayerSounder x = new LayerSounder();
        x.ping(0, 0, 0, 16);
        for (int b = 0; b < 3; b++) {
            x.reel(b, 0, 4);
        }
        due("taken at first", x.fate(0, 0), 0);
        due("count(7)", x.count(7), 1);
        x.laws(0, false, 1000);
        due("not taken", x.fate(0, 0), 4);
        due("count(7)", x.count(7), 0);
        x.laws(0, true, 1000);
        due("taken again", x.fate(0, 0), 0);
        x.laws(0, false, 1000);
        x.reel(3, 0, 4);
        due("four BEAMS", x.fate(0, 0), 0);
    }

    private static void fateBound() {
        sentence("Terms 3", "5 ODD is above the BOUND in amount (told, 0 to 100000; 1000 at first)");
        LayerSounder x = new LayerSounder();
        x.cells(8);
        x.ping(0, 0, 0, 8);
        fill(x, 0, 2, 1000, 1001, 0, 0, 0, 1, 0, 20000);
        fill(x, 1, 2, 0, 0, 0, 0, 0, 0, 0, 20000);
        fill(x, 2, 2, 0, 0, 1000, 1001, 0, 0, 1, -127);
        fill(x, 3, 2, 0, 0, 0, 0, 0, 0, 0, -127);
        due("BOUND at first", x.count(6), 1000);
        fatesAre(x, "at first", 0, 5, 0, 5, 0, 0, 0, 5);
        x.laws(0, true, 1001);
        fatesAre(x, "BOUND 1001", 0, 0, 0, 0, 0, 0, 0, 5);
        x.laws(0, true, 999);
        fatesAre(x, "BOUND 999", 5, 5, 5, 5, 0, 0, 0, 5);
        x.laws(0, true, 1);
        fatesAre(x, "BOUND 1", 5, 5, 5, 5, 0, 0, 0, 5);
        x.laws(0, true, 0);
        fatesAre(x, "BOUND 0", 5, 5, 5, 5, 0, 5, 5, 5);
        x.laws(0, true, 40253);
        fatesAre(x, "BOUND 40253", 0, 0, 0, 0, 0, 0, 0, 5);
        x.laws(0, true, 40254);
        fatesAre(x, "BOUND 40254", 0, 0, 0, 0, 0, 0, 0, 0);
        x.laws(0, true, 100000);
        fatesAre(x, "BOUND 100000", 0, 0, 0, 0, 0, 0, 0, 0);
        range("laws(0, true, ..)", (y, v) -> y.laws(0, true, v), 0, 1, 100000, 1, BAD);
    }

    private static void fateAlongAcross() {
        sentence("Terms 3", "6 its ALONG or ACROSS is above 20000 in amount; 0 it is GOOD");
        due("ALONG 20000", fateOf(false, 0, true, 100000, 20000, 0, 0, 0), 0);
        due("ALONG 20001", fateOf(false, 0, true, 100000, 20000, -1, 0, 0), 6);
        due("ALONG -20000", fateOf(false, 0, true, 100000, 0, 20000, 0, 0), 0);
        due("ALONG -20001", fateOf(false, 0, true, 100000, -1, 20000, 0, 0), 6);
        due("ACROSS 20000", fateOf(false, 0, true, 100000, 0, 0, 20000, 0), 0);
        due("ACROSS 20001", fateOf(false, 0, true, 100000, 0, 0, 20000, -1), 6);
        due("ACROSS -20000", fateOf(false, 0, true, 100000, 0, 0, 0, 20000), 0);
        due("ACROSS -20001", fateOf(false, 0, true, 100000, 0, 0, -1, 20000), 6);
        due("both 20000", fateOf(false, 0, true, 0, 20000, 0, 20000, 0), 0);
        due("both 20001", fateOf(false, 0, true, 0, 20000, -1, 20000, -1), 6);
        due("ALONG 20000 of a THREE", fateOf(false, 0, true, 0, NO_READING, 0, 10000, 10000), 0);
        due("ALONG 20001 of a THREE", fateOf(false, 0, true, 0, NO_READING, 0, 10001, 10000), 6);
        due("ACROSS -20000 of a THREE", fateOf(false, 0, true, 0, 10000, 10000, NO_READING, 20000), 0);
        due("ACROSS -20001 of a THREE", fateOf(false, 0, true, 0, 10000, 9999, NO_READING, 20000), 6);
    }

    /** CELL c has ALONG 10 to the c, so that a sum tells by its digits which CELLS are in it, and how often. */
    private static LayerSounder digits(int depth, int edge) {
        int[] along = {1, 10, 100, 1000, 10000, 2, 20, 200, 2000, 20000};
        LayerSounder x = paces(5, along, new int[10]);
        x.laws(edge, true, 100000);
        x.ping(0, 0, 0, depth);
        x.ping(0, 0, 1, 16);
        x.ping(0, 0, 3, 16);
        return x;
    }

    private static void boxEdges() {
        sentence("Terms 3", "A BOX is PINGS p to q and CELLS c to d: how many GOOD CELLS there are, the sums of their EAST, NORTH PACES");
        LayerSounder x = digits(16, 0);
        due("PING 0, CELL 0: how many", x.box(0, 0, 0, 0, 0), 1);
        due("PING 0, CELL 0", x.box(0, 0, 0, 0, 1), 1 * TWICE_TURNED);
        due("PING 0, CELL 4", x.box(0, 0, 4, 4, 1), 10000 * TWICE_TURNED);
        due("PING 1, CELL 4", x.box(1, 1, 4, 4, 1), 20000 * TWICE_TURNED);
        due("PING 0, CELLS 0 to 4", x.box(0, 0, 0, 4, 1), 11111 * TWICE_TURNED);
        due("PINGS 0 to 1, CELL 0", x.box(0, 1, 0, 0, 1), 3 * TWICE_TURNED);
        due("all", x.box(0, 2, 0, 4, 1), 33333 * TWICE_TURNED);
        due("all: how many are GOOD", x.box(0, 2, 0, 4, 0), 10);
        due("all: NORTH", x.box(0, 2, 0, 4, 2), 0);
        due("PING 2 has none: how many", x.box(2, 2, 0, 4, 0), 0);
        due("PING 2 has none: EAST", x.box(2, 2, 0, 4, 1), 0);
        due("PING 2 has none: NORTH", x.box(2, 2, 0, 4, 2), 0);
        x.mend(0, 9);
        x.mend(1, 27);
        due("NORTH, turned by a quarter each way", x.box(0, 2, 0, 4, 2), -11111 * TWICE_TURNED);
        due("EAST, turned by a quarter each way", x.box(0, 2, 0, 4, 1), 0);
        x.motion(2);
        due("OWN is taken off each of 5", x.box(0, 0, 0, 4, 2), (11111 - 5) * TWICE_TURNED);
        LayerSounder far = paces(5, new int[10], new int[10]);
        far.ping(0, -1000000, 1000000, 5);
        far.ping(0, 1000000, -1000000, 5);
        far.motion(2);
        due("farther than an int EAST", far.box(0, 1, 0, 4, 1), -5 * 8450000000L);
        due("farther than an int NORTH", far.box(0, 1, 0, 4, 2), 5 * 8450000000L);
        due("one has OWN: how many", far.box(0, 1, 0, 4, 0), 5);
    }

    private static void flowSteps() {
        sentence("Terms 3", "THE FLOW over PINGS p to q (p less than q): for each PING r from p to q - 1 the step from its PLACE to that of the next one");
        LayerSounder x = digits(16, 0);
        due("flow(0, 1, 0)", x.flow(0, 1, 0), 11111 * TWICE_TURNED);
        due("flow(1, 2, 0): a step of 2", x.flow(1, 2, 0), 44444 * TWICE_TURNED);
        due("flow(0, 2, 0)", x.flow(0, 2, 0), 55555 * TWICE_TURNED);
        due("flow(0, 0, 0)", x.flow(0, 0, 0), BAD_LONG);
        due("flow(2, 2, 0)", x.flow(2, 2, 0), BAD_LONG);
        due("flow(1, 0, 0)", x.flow(1, 0, 0), BAD_LONG);
        due("flow(2, 3, 0)", x.flow(2, 3, 0), BAD_LONG);
        due("flow(-1, 0, 0)", x.flow(-1, 0, 0), BAD_LONG);
        // The last PING ends the way: its own CELLS are not in it.
        x.put(0, 2, 5, 20000);
        due("flow(0, 1, 0) again", x.flow(0, 1, 0), 11111 * TWICE_TURNED);
        LayerSounder still = paces(1, new int[] {3, 4}, new int[] {5, 6});
        still.ping(0, 7, 7, 1);
        still.ping(0, 7, 7, 1);
        due("no step, no FLOW", still.flow(0, 1, 1), 0);
        due("EAST times V less NORTH times U", sounder().flow(0, 1, 0), -65 * 5 * TWICE_TURNED);
        flowOfForty();
    }

    private static void flowOfForty() {
        LayerSounder x = new LayerSounder();
        x.cells(5);
        x.laws(0, true, 100000);
        for (int b = 0; b < 4; b++) {
            x.reel(b, 2, 200);
        }
        x.put(0, 2, 199, 9);
        x.put(0, 2, 190, 7);
        x.put(0, 2, 0, 5);
        for (int p = 0; p < 40; p++) {
            x.ping(0, 0, p, 5);
        }
        due("flow(0, 39, 0): CELL 0 of PINGS 0, 38", x.flow(0, 39, 0), 12 * TWICE_TURNED);
        due("flow(38, 39, 0)", x.flow(38, 39, 0), 7 * TWICE_TURNED);
        due("flow(0, 40, 0)", x.flow(0, 40, 0), BAD_LONG);
        due("flow(39, 39, 0)", x.flow(39, 39, 0), BAD_LONG);
    }

    private static void flowEdges() {
        sentence("Terms 3", "with EDGES 1 each CELL above the first GOOD one of a PING has that one's PACE");
        LayerSounder x = digits(5, 0);
        flowsAre(x, "CELL 0 is GOOD", 11111, 11111);
        lose(x, 0);
        flowsAre(x, "CELL 1 is the first GOOD one", 11110, 11120);
        lose(x, 1);
        flowsAre(x, "CELL 2 is the first GOOD one", 11100, 11300);
        lose(x, 2);
        lose(x, 3);
        flowsAre(x, "CELL 4 alone is GOOD", 10000, 50000);
        lose(x, 4);
        flowsAre(x, "none is GOOD", 0, 0);
        sentence("Terms 3", "with EDGES 0 these have none");
        range("flow(0, 1, ..)", (y, v) -> y.flow(0, 1, v), 0, -325 * TWICE_TURNED, 1, -325 * TWICE_TURNED, BAD_LONG);
    }

    /** CELL c of PING 0 has no answer from now on. */
    private static void lose(LayerSounder x, int c) {
        x.put(1, 2, c, NO_READING);
        x.put(3, 2, c, NO_READING);
    }

    private static void flowsAre(LayerSounder x, String when, long plain, long edged) {
        due("flow(0, 1, 0): " + when, x.flow(0, 1, 0), plain * TWICE_TURNED);
        due("flow(0, 1, 1): " + when, x.flow(0, 1, 1), edged * TWICE_TURNED);
    }

    private static void flowBelow() {
        sentence("Terms 3", "each below the last GOOD one, as long as it is not BELOW (c less than DEPTH), that one's");
        flowsAre(digits(5, 0), "DEPTH 5, EDGE 0", 11111, 11111);
        flowsAre(digits(5, 1), "DEPTH 5, EDGE 1", 1111, 2111);
        flowsAre(digits(5, 4), "DEPTH 5, EDGE 4", 1, 5);
        flowsAre(digits(5, 5), "DEPTH 5, EDGE 5", 0, 0);
        flowsAre(digits(4, 0), "DEPTH 4, EDGE 0: CELL 4 is BELOW", 1111, 1111);
        flowsAre(digits(4, 1), "DEPTH 4, EDGE 1: CELL 4 is BELOW", 111, 211);
        flowsAre(digits(1, 0), "DEPTH 1, EDGE 0", 1, 1);
        flowsAre(digits(1, 1), "DEPTH 1, EDGE 1", 0, 0);
        flowsAre(digits(0, 0), "DEPTH 0", 0, 0);
        flowsAre(digits(6, 1), "DEPTH 6, EDGE 1: there is no CELL 5", 11111, 11111);
        flowsAre(digits(6, 2), "DEPTH 6, EDGE 2", 1111, 2111);
        flowsAre(digits(16, 0), "DEPTH 16, EDGE 0", 11111, 11111);
        flowsAre(digits(16, 15), "DEPTH 16, EDGE 15", 1, 5);
        flowsAre(digits(16, 16), "DEPTH 16, EDGE 16", 0, 0);
        LayerSounder x = digits(4, 0);
        lose(x, 3);
        flowsAre(x, "no answer, but not BELOW", 111, 211);
        lose(x, 2);
        lose(x, 0);
        flowsAre(x, "CELL 1 alone is GOOD, DEPTH 4", 10, 40);
    }

    private static void flowBetween() {
        sentence("Terms 3", "Others (between GOOD ones) none");
        LayerSounder x = digits(5, 0);
        lose(x, 2);
        flowsAre(x, "CELL 2 is between", 11011, 11011);
        lose(x, 1);
        lose(x, 3);
        flowsAre(x, "CELLS 1, 2, 3 are between", 10001, 10001);
        lose(x, 0);
        flowsAre(x, "CELL 4 alone is GOOD", 10000, 50000);
        LayerSounder y = digits(5, 0);
        y.laws(0, false, 9999);
        flowsAre(y, "ODD is above the BOUND in CELL 4", 1111, 2111);
        y.put(1, 2, 0, NO_READING);
        flowsAre(y, "a THREE that is not taken in CELL 0", 1110, 2120);
        y.motion(1);
        flowsAre(y, "no OWN", 0, 0);
    }

    private static void flowLong() {
        sentence("Terms 3", "Sums are longs that wrap");
        LayerSounder x = new LayerSounder();
        x.cells(5);
        x.laws(0, true, 100000);
        for (int b = 0; b < 4; b++) {
            x.reel(b, 2, 200);
        }
        x.put(0, 2, 0, 20000);
        x.put(3, 2, 0, 20000);
        for (int have = 1; have < 200; have *= 2) {
            x.copy(0, 0, 0, have, Math.min(have, 200 - have));
            x.copy(3, 0, 3, have, Math.min(have, 200 - have));
        }
        // There and back: U, V turn over with each PING, and so do EAST, NORTH with its HEADING.
        for (int p = 0; p < 40; p++) {
            int far = p % 2 == 0 ? -1000000 : 1000000;
            x.ping(p % 2 == 0 ? 0 : 18, far, far, 5);
        }
        BigInteger each = BigInteger.valueOf(20000 * TWICE_TURNED).multiply(BigInteger.valueOf(2 * 2000000L));
        due("flow(0, 39, 0)", x.flow(0, 39, 0), each.multiply(BigInteger.valueOf(39 * 5)).longValue());
        x.laws(4, true, 100000);
        due("flow(0, 39, 1)", x.flow(0, 39, 1), each.multiply(BigInteger.valueOf(39 * 5)).longValue());
        x.motion(2);
        due("flow(0, 39, 1) by PLACES", x.flow(0, 39, 1), each.multiply(BigInteger.valueOf(39 * 5)).longValue());
    }

    /** Out and back along 65 0 over still water; the sounder stands a TURN askew. */
    private static LayerSounder outAndBack(int turn) {
        int[] cs = cs(turn);
        LayerSounder x = paces(1, new int[] {cs[0], cs[0], 20000}, new int[] {-cs[1], -cs[1], 0});
        // The DEPTH is below the last CELL: one CELL too many would read the next PING's, and be GOOD.
        x.ping(0, 0, 0, 16);
        x.ping(18, 65, 0, 16);
        x.ping(0, 0, 0, 16);
        x.motion(2);
        return x;
    }

    private static void askewEachTurn() {
        sentence("Terms 3", "for each TURN as THE SKEW the sum of EAST and of NORTH PACES of GOOD CELLS");
        for (int turn = 0; turn < 36; turn++) {
            LayerSounder x = outAndBack(turn);
            due("askew(0, 0, 1, 1), " + turn + " askew", x.askew(0, 0, 1, 1), turn);
            due("askew(1, 1, 0, 0), " + turn + " askew", x.askew(1, 1, 0, 0), turn);
            x.skew(35 - turn);
            due("askew(0, 0, 1, 1), whatever THE SKEW is", x.askew(0, 0, 1, 1), turn);
            due("THE SKEW stays", x.count(3), 35 - turn);
        }
    }

    private static void askewLikeMisses() {
        sentence("Terms 3", "the greater amount of both is its MISS: the TURN with the least MISS, of like ones the least");
        due("the same PINGS: each MISS is 0", sounder().askew(0, 0, 0, 0), 0);
        due("like PINGS: each MISS is 0", sounder().askew(0, 1, 1, 1), 0);
        // By none, a quarter more has the same MISS: the TURN is one of the first nine.
        due("along X: 52 at 4 and 5, and at each quarter more", askewOf(1, 0), 4);
        due("along Y", askewOf(0, 1), 4);
        due("along both: 65 at 0", askewOf(1, 1), 0);
        for (int[] gap : new int[][] {{20, 10}, {7, 1}, {1, 7}, {-3, 5}, {-100, -99}, {90, -100}, {20000, 1}, {1, 20000}}) {
            due("askew of " + gap[0] + ", " + gap[1], askewOf(gap[0], gap[1]), askewByHand(gap[0], gap[1]));
        }
    }

    /** ASKEW by none of a CELL that has ALONG, ACROSS and another that has 0, 0. */
    private static int askewOf(int along, int across) {
        int[] a = {Math.max(along, 0), 0};
        int[] b = {Math.max(-along, 0), 0};
        int[] c = {Math.max(across, 0), 0};
        int[] d = {Math.max(-across, 0), 0};
        LayerSounder x = paces(1, a, c);
        fill(x, 1, 2, b);
        fill(x, 3, 2, d);
        x.ping(0, 0, 0, 1);
        x.ping(0, 0, 0, 1);
        return x.askew(0, 0, 1, 1);
    }

    private static int askewByHand(int along, int across) {
        int best = 0;
        long least = Long.MAX_VALUE;
        for (int turn = 0; turn < 36; turn++) {
            int[] cs = cs(turn);
            long miss = Math.max(Math.abs(cs[0] * along - cs[1] * across), Math.abs(cs[1] * along + cs[0] * across));
            if (miss < least) {
                least = miss;
                best = turn;
            }
        }
        return best;
    }

    private static void askewHowMany() {
        sentence("Terms 3", "of the first, times how many the second has, less those of the second, times how many the first has");
        // Two CELLS out, one back; each out has 33, 56 less what the way makes, so the sums alone would not do.
        int[] out = cs(6);
        LayerSounder x = paces(2, new int[] {out[0], out[0], out[0], 0, 0, 0}, new int[] {-out[1], -out[1], -out[1], 0, 0, 0});
        lose(x, 3);
        x.ping(0, 0, 0, 2);
        x.ping(18, 65, 0, 2);
        x.ping(0, 0, 0, 2);
        x.motion(2);
        due("askew(0, 0, 1, 1)", x.askew(0, 0, 1, 1), 6);
        // By none EAST is 3 of each of two CELLS, and 3 of the one: the gap is 0 if each side is taken as often as the other has CELLS.
        LayerSounder y = paces(2, new int[] {3, 3, 3, 0}, new int[4]);
        lose(y, 3);
        y.ping(0, 0, 0, 2);
        y.ping(0, 0, 0, 2);
        due("each MISS is 0", y.askew(0, 0, 1, 1), 0);
        due("each MISS is 0, from the other side", y.askew(1, 1, 0, 0), 0);
    }

    private static void askewLong() {
        sentence("Terms 3", "Amounts are of longs that wrap; the least long's is above all");
        // No PINGS are so far apart that an amount wraps; the farthest ones are far beyond an int.
        LayerSounder x = paces(1, new int[] {20000, 20000, 0}, new int[] {0, 0, 0});
        x.ping(0, -1000000, 0, 1);
        x.ping(18, 1000000, 0, 1);
        x.ping(0, -1000000, 0, 1);
        x.motion(2);
        // EAST is 65 C 20000 less 8450000000 of the first, and its opposite of the second: least at TURN 0.
        due("askew(0, 0, 1, 1)", x.askew(0, 0, 1, 1), 0);
        x.mend(0, 18);
        x.mend(1, 0);
        due("with HEADINGS the other way", x.askew(0, 0, 1, 1), 18);
        x.mend(0, 9);
        x.mend(1, 27);
        due("with HEADINGS across", x.askew(0, 0, 1, 1), 27);
    }

    // ---- refusals

    private static void refusals() {
        sentence("Terms", "Refusals, the first that fits: BAD -2 (a number not as told, no such thing), NOT -3, FULL -4 (as told), FINDINGS");
        due("BAD", LayerSounder.BAD, -2);
        due("NOT", LayerSounder.NOT, -3);
        due("FULL", LayerSounder.FULL, -4);
        due("NONE", LayerSounder.NONE, -1);
        LayerSounder x = new LayerSounder();
        due("BAD ahead of SIZE", x.reel(8, 0, -1), BAD);
        due("BAD ahead of NULL", x.put(0, 3, 0, 0), BAD);
        due("NULL ahead of CAST and INDEX", x.put(0, 2, 900, 0), NULL);
        x.reel(0, 0, 1);
        due("CAST ahead of INDEX", x.put(0, 2, 900, 0), CAST);
        due("INDEX", x.put(0, 0, 900, 0), INDEX);
        due("BAD ahead of NULL", x.copy(1, 0, 8, 0, 0), BAD);
        due("NULL ahead of STORE and INDEX", x.copy(0, 0, 1, 0, 900), NULL);
        x.reel(1, 1, 1);
        due("STORE ahead of INDEX", x.copy(0, 0, 1, 0, 900), STORE);
        for (int p = 0; p < 40; p++) {
            x.ping(0, 0, 0, 0);
        }
        due("BAD ahead of FULL", x.ping(0, 0, 0, 17), BAD);
        due("FULL", x.ping(0, 0, 0, 16), FULL);
        due("BAD ahead of NOT", x.cells(17), BAD);
        due("NOT", x.cells(16), NOT);
        due("BAD ahead of NOT", x.askew(0, 0, 0, 40), BAD);
        due("NOT", x.askew(0, 0, 0, 39), NOT);
    }

    private static void longRefusals() {
        sentence("Terms", "Where the answer is a long, a refusal -x is the least long and x more");
        LayerSounder x = sounder();
        x.motion(1);
        due("own, BAD", x.own(2, 0), Long.MIN_VALUE + 2);
        due("own, NOT", x.own(0, 0), Long.MIN_VALUE + 3);
        due("pace, BAD", x.pace(2, 0, 0), Long.MIN_VALUE + 2);
        due("pace, NOT", x.pace(0, 0, 0), Long.MIN_VALUE + 3);
        due("box, BAD", x.box(0, 2, 0, 0, 0), Long.MIN_VALUE + 2);
        due("mean, BAD", x.mean(0, 2, 0, 0, 1), Long.MIN_VALUE + 2);
        due("mean, NOT", x.mean(0, 1, 0, 0, 1), Long.MIN_VALUE + 3);
        due("flow, BAD", x.flow(0, 2, 0), Long.MIN_VALUE + 2);
    }
}
