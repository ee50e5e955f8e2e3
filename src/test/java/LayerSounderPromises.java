/** Each promise of the document by itself, with answers that were made by hand. */
public final class LayerSounderPromises {
    private static final int LEAST = Integer.MIN_VALUE;
    private static final long BAD_LONG = Long.MIN_VALUE + 2;
    private static final long NOT_LONG = Long.MIN_VALUE + 3;
    private static final int[] WRONG = {Integer.MIN_VALUE, -1, 1000001, Integer.MAX_VALUE};

    private static int wrong = 0;
    private static int promise = 0;

    private static void due(String call, long got, long want) {
        if (got != want) {
            wrong++;
            System.out.println("promise " + promise + ": " + call + " answered " + got + ", due is " + want);
        }
    }

    public static void main(String[] args) {
        newObject();
        reel();
        lose();
        put();
        get();
        copy();
        cells();
        ping();
        mend();
        clear();
        about();
        own();
        motion();
        skew();
        laws();
        answer();
        beam();
        turned();
        fate();
        pace();
        fates();
        box();
        mean();
        flow();
        askew();
        closes();
        count();
        digest();
        System.out.println(wrong == 0 ? "all promises hold" : wrong + " answers are not as due");
        if (wrong != 0) {
            System.exit(1);
        }
    }

    // ---- what the tests are made of

    private static LayerSounder sounder(int cells) {
        LayerSounder x = new LayerSounder();
        x.cells(cells);
        return x;
    }

    private static void fill(LayerSounder x, int r, int form, int... items) {
        x.reel(r, form, items.length);
        for (int i = 0; i < items.length; i++) {
            x.put(r, form, i, items[i]);
        }
    }

    /** Four rows of ints from pairs of ALONG, ACROSS; the second and fourth BEAM read 0. */
    private static void fillPaces(LayerSounder x, int firstReel, int[] along, int[] across) {
        fill(x, firstReel, 2, along);
        fill(x, firstReel + 1, 2, new int[along.length]);
        fill(x, firstReel + 2, 2, across);
        fill(x, firstReel + 3, 2, new int[along.length]);
    }

    // ---- the promises

    private static void newObject() {
        promise = 1;
        LayerSounder x = new LayerSounder();
        int[] counts = {0, 4, 0, 0, 0, 0, 1000, 1};
        for (int what = 0; what < counts.length; what++) {
            due("count(" + what + ")", x.count(what), counts[what]);
        }
        for (int r = 0; r < 8; r++) {
            due("lose(" + r + ")", x.lose(r), -11);
        }
        due("fates(0)", x.fates(0), 0);
        due("clear()", x.clear(), 0);
        due("NONE", LayerSounder.NONE, -1);
        due("BAD", LayerSounder.BAD, -2);
        due("NOT", LayerSounder.NOT, -3);
        due("FULL", LayerSounder.FULL, -4);
    }

    private static void reel() {
        promise = 2;
        LayerSounder x = new LayerSounder();
        due("reel(0, 0, 0)", x.reel(0, 0, 0), 0);
        due("an empty REEL is not LOST", x.lose(0), 0);
        due("reel(7, 2, 200)", x.reel(7, 2, 200), 200);
        due("reel(7, 2, 201)", x.reel(7, 2, 201), -2);
        due("reel(8, 0, 1)", x.reel(8, 0, 1), -2);
        due("reel(-1, 0, 1)", x.reel(-1, 0, 1), -2);
        due("reel(0, 3, 1)", x.reel(0, 3, 1), -2);
        due("reel(0, -1, 1)", x.reel(0, -1, 1), -2);
        due("reel(0, 3, -1): BAD is ahead of SIZE", x.reel(0, 3, -1), -2);
        due("BAD is no FINDING", x.count(5), 0);
        x.put(7, 2, 0, 4);
        x.put(7, 2, 199, 5);
        due("reel(7, 0, -1)", x.reel(7, 0, -1), -15);
        due("reel(7, 0, least)", x.reel(7, 0, LEAST), -15);
        due("count(5)", x.count(5), 5);
        due("a refusal changes nothing", x.get(7, 2, 199), 5);
        due("reel(7, 2, 200) again", x.reel(7, 2, 200), 200);
        due("items are 0 at first", x.get(7, 2, 0), 0);
        due("items are 0 at first", x.get(7, 2, 199), 0);
        due("reel(7, 1, 3)", x.reel(7, 1, 3), 3);
        due("the new FORM", x.put(7, 1, 2, 1), 1);
        due("the new length", x.put(7, 1, 3, 1), -12);
    }

    private static void lose() {
        promise = 3;
        LayerSounder x = new LayerSounder();
        x.reel(3, 1, 17);
        due("lose(3)", x.lose(3), 17);
        due("lose(3) again", x.lose(3), -11);
        due("count(5)", x.count(5), 1);
        due("lose(-1)", x.lose(-1), -2);
        due("lose(8)", x.lose(8), -2);
        due("put on what is LOST", x.put(3, 1, 0, 0), -11);
    }

    private static void put() {
        promise = 4;
        LayerSounder x = new LayerSounder();
        int[] told = {127, 128, 300, -129, 32767, 32768, 40000, Integer.MAX_VALUE, LEAST};
        int[] bytes = {127, -128, 44, 127, -1, 0, 64, -1, 0};
        int[] shorts = {127, 128, 300, -129, 32767, -32768, -25536, -1, 0};
        int[][] kept = {bytes, shorts, told};
        for (int form = 0; form < 3; form++) {
            x.reel(form, form, told.length);
            for (int i = 0; i < told.length; i++) {
                due("put(" + form + ", " + form + ", " + i + ", " + told[i] + ")", x.put(form, form, i, told[i]), 1);
                due("get after it", x.get(form, form, i), kept[form][i]);
            }
        }
        due("put(8, ..)", x.put(8, 0, 0, 0), -2);
        due("put(-1, ..)", x.put(-1, 0, 0, 0), -2);
        due("put(0, 3, ..)", x.put(0, 3, 0, 0), -2);
        due("put(3, -1, ..)", x.put(3, -1, 0, 0), -2);
        due("BAD is no FINDING", x.count(5), 0);
        due("put(0, 1, 99, 0): CAST is ahead of INDEX", x.put(0, 1, 99, 0), -13);
        due("count(5)", x.count(5), 3);
        due("put(0, 0, 9, 0)", x.put(0, 0, 9, 0), -12);
        due("put(0, 0, -1, 0)", x.put(0, 0, -1, 0), -12);
        due("count(5)", x.count(5), 2);
        due("put(5, 1, 99, 0): NULL is ahead of all FINDINGS", x.put(5, 1, 99, 0), -11);
        due("count(5)", x.count(5), 1);
    }

    private static void get() {
        promise = 5;
        LayerSounder x = new LayerSounder();
        fill(x, 0, 1, 7, -8, 9);
        due("get(0, 1, 1)", x.get(0, 1, 1), -8);
        due("get(8, 1, 1)", x.get(8, 1, 1), LEAST);
        due("get(-1, 1, 1)", x.get(-1, 1, 1), LEAST);
        due("get(0, 3, 1)", x.get(0, 3, 1), LEAST);
        due("get(0, -1, 1)", x.get(0, -1, 1), LEAST);
        due("BAD is no FINDING", x.count(5), 0);
        due("get(0, 1, 3)", x.get(0, 1, 3), LEAST);
        due("count(5)", x.count(5), 2);
        due("get(0, 2, 3)", x.get(0, 2, 3), LEAST);
        due("count(5)", x.count(5), 3);
        due("get(1, 2, 3)", x.get(1, 2, 3), LEAST);
        due("count(5)", x.count(5), 1);
        due("get(0, 1, -1)", x.get(0, 1, -1), LEAST);
        due("count(5)", x.count(5), 2);
        due("a good call leaves count(5)", x.get(0, 1, 0), 7);
        due("count(5)", x.count(5), 2);
    }

    private static void copy() {
        promise = 6;
        LayerSounder x = new LayerSounder();
        fill(x, 0, 0, 1, 2, 3, 4, 5);
        fill(x, 1, 0, 9, 9, 9);
        fill(x, 2, 1, 9, 9, 9);
        due("copy(0, 0, 0, 1, 4)", x.copy(0, 0, 0, 1, 4), 1);
        rowIs(x, 0, 0, 1, 1, 2, 3, 4);
        due("copy(0, 2, 0, 0, 3)", x.copy(0, 2, 0, 0, 3), 1);
        rowIs(x, 0, 0, 2, 3, 4, 3, 4);
        due("copy(0, 1, 1, 1, 2)", x.copy(0, 1, 1, 1, 2), 1);
        rowIs(x, 1, 0, 9, 3, 4);
        due("copy(0, 5, 1, 3, 0)", x.copy(0, 5, 1, 3, 0), 1);
        due("copy(8, ..)", x.copy(8, 0, 1, 0, 1), -2);
        due("copy(.., -1, ..)", x.copy(0, 0, -1, 0, 1), -2);
        due("BAD is ahead of NULL", x.copy(7, 0, 8, 0, 1), -2);
        due("BAD is no FINDING", x.count(5), 0);
        due("copy(7, 0, 0, 0, 1)", x.copy(7, 0, 0, 0, 1), -11);
        due("copy(0, 0, 7, 0, 99)", x.copy(0, 0, 7, 0, 99), -11);
        due("copy(0, 0, 2, 0, 99): STORE is ahead of INDEX", x.copy(0, 0, 2, 0, 99), -14);
        due("count(5)", x.count(5), 4);
        due("copy(0, -1, 1, 0, 1)", x.copy(0, -1, 1, 0, 1), -12);
        due("copy(0, 0, 1, -1, 1)", x.copy(0, 0, 1, -1, 1), -12);
        due("copy(0, 0, 1, 0, -1)", x.copy(0, 0, 1, 0, -1), -12);
        due("copy(0, 0, 1, 0, least)", x.copy(0, 0, 1, 0, LEAST), -12);
        due("copy(0, 4, 1, 0, 2)", x.copy(0, 4, 1, 0, 2), -12);
        due("copy(0, 0, 1, 2, 2)", x.copy(0, 0, 1, 2, 2), -12);
        due("copy(0, 6, 1, 0, 0)", x.copy(0, 6, 1, 0, 0), -12);
        due("sums that wrap", x.copy(0, Integer.MAX_VALUE, 1, 0, Integer.MAX_VALUE), -12);
        due("count(5)", x.count(5), 2);
        rowIs(x, 1, 0, 9, 3, 4);
    }

    private static void rowIs(LayerSounder x, int r, int form, int... items) {
        for (int i = 0; i < items.length; i++) {
            due("item " + i + " of REEL " + r, x.get(r, form, i), items[i]);
        }
    }

    private static void cells() {
        promise = 7;
        LayerSounder x = new LayerSounder();
        due("cells(1)", x.cells(1), 4);
        due("cells(16)", x.cells(16), 1);
        due("cells(0)", x.cells(0), -2);
        due("cells(17)", x.cells(17), -2);
        due("count(1)", x.count(1), 16);
        x.ping(0, 0, 0, 0);
        due("cells(3) with a PING", x.cells(3), -3);
        due("cells(17): BAD is ahead of NOT", x.cells(17), -2);
        x.clear();
        due("cells(3) after clear()", x.cells(3), 16);
    }

    private static void ping() {
        promise = 8;
        LayerSounder x = new LayerSounder();
        due("ping(36, ..)", x.ping(36, 0, 0, 0), -2);
        due("ping(-1, ..)", x.ping(-1, 0, 0, 0), -2);
        due("ping(.., 17)", x.ping(0, 0, 0, 17), -2);
        due("ping(.., -1)", x.ping(0, 0, 0, -1), -2);
        for (int v : new int[] {-1000001, 1000001, LEAST, Integer.MAX_VALUE}) {
            due("ping(0, " + v + ", 0, 0)", x.ping(0, v, 0, 0), -2);
            due("ping(0, 0, " + v + ", 0)", x.ping(0, 0, v, 0), -2);
        }
        due("count(0)", x.count(0), 0);
        for (int p = 0; p < 40; p++) {
            due("ping(35, ..)", x.ping(35, 1000000, -1000000, 16), p);
        }
        due("the 41st", x.ping(0, 0, 0, 0), -4);
        due("BAD is ahead of FULL", x.ping(36, 0, 0, 0), -2);
        due("count(0)", x.count(0), 40);
    }

    private static void mend() {
        promise = 9;
        LayerSounder x = sounder(1);
        fillPaces(x, 0, new int[] {10}, new int[] {0});
        x.ping(4, 0, 0, 1);
        due("mend(0, 9)", x.mend(0, 9), 4);
        due("about(0, 0)", x.about(0, 0), 9);
        due("the PACE goes with it", x.pace(0, 0, 1), 42250);
        due("mend(0, 36)", x.mend(0, 36), -2);
        due("mend(0, -1)", x.mend(0, -1), -2);
        due("mend(1, 0)", x.mend(1, 0), -2);
        due("mend(-1, 0)", x.mend(-1, 0), -2);
        due("about(0, 0)", x.about(0, 0), 9);
    }

    private static void clear() {
        promise = 10;
        LayerSounder x = sounder(2);
        x.reel(0, 0, 5);
        x.ping(0, 1, 2, 3);
        x.ping(0, 1, 2, 3);
        x.skew(5);
        due("clear()", x.clear(), 2);
        due("clear() again", x.clear(), 0);
        due("about(0, 0)", x.about(0, 0), LEAST);
        due("L stays", x.count(1), 2);
        due("THE SKEW stays", x.count(3), 5);
        due("REELS stay", x.lose(0), 5);
        due("numbers begin anew", x.ping(1, 0, 0, 0), 0);
    }

    private static void about() {
        promise = 11;
        LayerSounder x = sounder(1);
        x.ping(7, -30, 40, 16);
        int[] wants = {7, -30, 40, 16, 1};
        for (int what = 0; what < wants.length; what++) {
            due("about(0, " + what + ")", x.about(0, what), wants[what]);
        }
        due("about(0, 5)", x.about(0, 5), LEAST);
        due("about(0, -1)", x.about(0, -1), LEAST);
        due("about(1, 0)", x.about(1, 0), LEAST);
        due("about(-1, 0)", x.about(-1, 0), LEAST);
        x.motion(2);
        due("the last has no OWN by PLACES", x.about(0, 4), 0);
        x.ping(0, 0, 0, 0);
        due("it has, with one behind it", x.about(0, 4), 1);
        x.motion(1);
        due("no BOTTOM", x.about(0, 4), 0);
        fill(x, 4, 0, 1);
        fill(x, 5, 0, 1);
        due("two BEAMS of the BOTTOM", x.about(0, 4), 0);
        fill(x, 6, 0, 1);
        due("three BEAMS of the BOTTOM", x.about(0, 4), 1);
    }

    private static void own() {
        promise = 12;
        LayerSounder x = sounder(1);
        x.ping(0, -1000000, 5, 1);
        x.ping(9, 1000000, 3, 1);
        due("own(0, 0) by none", x.own(0, 0), 0);
        due("own(1, 1) by none", x.own(1, 1), 0);
        x.motion(2);
        due("own(0, 0) by PLACES", x.own(0, 0), 8450000000L);
        due("own(0, 1) by PLACES", x.own(0, 1), -8450);
        x.skew(7);
        due("THE SKEW does not turn PLACES", x.own(0, 0), 8450000000L);
        due("own(1, 0) by PLACES", x.own(1, 0), NOT_LONG);
        x.motion(1);
        due("own(0, 0) without BOTTOM", x.own(0, 0), NOT_LONG);
        fill(x, 4, 0, 12, -128);
        fill(x, 5, 1, 15, 3);
        fill(x, 6, 2, 18, 10);
        fill(x, 7, 2, 21, 4);
        x.skew(0);
        due("own(0, 0) by BOTTOM", x.own(0, 0), -12675);
        due("own(0, 1) by BOTTOM", x.own(0, 1), -12675);
        x.skew(1);
        due("own(0, 0) with SKEW 1", x.own(0, 0), -9165);
        due("own(0, 1) with SKEW 1", x.own(0, 1), -15405);
        x.skew(0);
        due("own(1, 0) of a THREE: ALONG 8, ACROSS 6", x.own(1, 0), -25350);
        due("own(1, 1) of a THREE: ALONG 8, ACROSS 6", x.own(1, 1), 33800);
        due("own(0, 2)", x.own(0, 2), BAD_LONG);
        due("own(0, -1)", x.own(0, -1), BAD_LONG);
        due("own(2, 0)", x.own(2, 0), BAD_LONG);
        due("own(-1, 0)", x.own(-1, 0), BAD_LONG);
    }

    private static void motion() {
        promise = 13;
        LayerSounder x = new LayerSounder();
        due("motion(2)", x.motion(2), 0);
        due("motion(1)", x.motion(1), 2);
        due("motion(3)", x.motion(3), -2);
        due("motion(-1)", x.motion(-1), -2);
        due("motion(0)", x.motion(0), 1);
        due("count(2)", x.count(2), 0);
    }

    private static void skew() {
        promise = 14;
        LayerSounder x = new LayerSounder();
        due("skew(35)", x.skew(35), 0);
        due("skew(36)", x.skew(36), -2);
        due("skew(-1)", x.skew(-1), -2);
        due("skew(0)", x.skew(0), 35);
        due("count(3)", x.count(3), 0);
    }

    private static void laws() {
        promise = 15;
        LayerSounder x = new LayerSounder();
        due("laws(16, false, 100000)", x.laws(16, false, 100000), 1);
        due("laws(17, true, 5)", x.laws(17, true, 5), -2);
        due("laws(-1, true, 5)", x.laws(-1, true, 5), -2);
        due("laws(5, true, 100001)", x.laws(5, true, 100001), -2);
        due("laws(5, true, -1)", x.laws(5, true, -1), -2);
        due("EDGE", x.count(4), 16);
        due("BOUND", x.count(6), 100000);
        due("THREES", x.count(7), 0);
        due("laws(0, true, 0)", x.laws(0, true, 0), 1);
        due("EDGE", x.count(4), 0);
        due("BOUND", x.count(6), 0);
        due("THREES", x.count(7), 1);
    }

    private static void answer() {
        promise = 16;
        answersAre(10, 3, 20, 8, 7, 12, -15, 0);
        answersAre(-127, 20000, 20000, -127, -20127, 20127, 0, 0);
        answersAre(-128, 3, 20, 8, 22, 12, 0, 1);
        answersAre(10, 20001, 20, 8, -8, 12, 0, 1);
        answersAre(10, 3, LEAST, 8, 7, -3, 0, 1);
        answersAre(10, 3, 20, Integer.MAX_VALUE, 7, 27, 0, 1);
        answersAre(-129, -127, 20000, 20000, 40254, 0, 0, 1);
        int none = -128;
        answersAre(none, none, 1, 1, LEAST, LEAST, LEAST, LEAST);
        answersAre(1, none, 1, none, LEAST, LEAST, LEAST, LEAST);
        answersAre(none, none, none, none, LEAST, LEAST, LEAST, LEAST);
        LayerSounder x = new LayerSounder();
        due("answer(1, 1, 1, 1, 4)", x.answer(1, 1, 1, 1, 4), LEAST);
        due("answer(1, 1, 1, 1, -1)", x.answer(1, 1, 1, 1, -1), LEAST);
    }

    private static void answersAre(int a, int b, int c, int d, int... wants) {
        LayerSounder x = new LayerSounder();
        for (int what = 0; what < 4; what++) {
            String call = "answer(" + a + ", " + b + ", " + c + ", " + d + ", " + what + ")";
            due(call, x.answer(a, b, c, d, what), wants[what]);
        }
    }

    private static void beam() {
        promise = 17;
        LayerSounder x = new LayerSounder();
        int[] four = {10, 3, 20, 8};
        for (int b = 0; b < 4; b++) {
            due("beam(7, 12, -15, 41, " + b + ")", x.beam(7, 12, -15, 41, b), 4 * four[b]);
        }
        due("beam at the edges", x.beam(20000, -20000, 20000, 1000000, 0), 1060000);
        due("beam at the edges", x.beam(20000, 20000, 20000, -1000000, 3), -1060000);
        due("beam(.., 4)", x.beam(0, 0, 0, 0, 4), LEAST);
        due("beam(.., -1)", x.beam(0, 0, 0, 0, -1), LEAST);
        for (int v : new int[] {20001, -20001, Integer.MAX_VALUE, LEAST}) {
            due("beam(" + v + ", 0, 0, 0, 0)", x.beam(v, 0, 0, 0, 0), LEAST);
            due("beam(0, " + v + ", 0, 0, 0)", x.beam(0, v, 0, 0, 0), LEAST);
            due("beam(0, 0, " + v + ", 0, 0)", x.beam(0, 0, v, 0, 0), LEAST);
        }
        due("beam(0, 0, 0, 1000001, 0)", x.beam(0, 0, 0, 1000001, 0), LEAST);
        due("beam(0, 0, 0, -1000001, 0)", x.beam(0, 0, 0, -1000001, 0), LEAST);
    }

    private static void turned() {
        promise = 18;
        LayerSounder x = new LayerSounder();
        int[] c = {65, 63, 60, 56, 52, 39, 33, 25, 16};
        int[] s = {0, 16, 25, 33, 39, 52, 56, 60, 63};
        for (int t = 0; t < 9; t++) {
            int[] quarters = {c[t], s[t], -s[t], c[t], -c[t], -s[t], s[t], -c[t]};
            for (int q = 0; q < 4; q++) {
                int turn = t + 9 * q;
                int cq = quarters[2 * q];
                int sq = quarters[2 * q + 1];
                due("turned(1, 0, " + turn + ", 0)", x.turned(1, 0, turn, 0), cq);
                due("turned(1, 0, " + turn + ", 1)", x.turned(1, 0, turn, 1), sq);
                due("turned(3, 5, " + turn + ", 0)", x.turned(3, 5, turn, 0), 3 * cq - 5 * sq);
                due("turned(3, 5, " + turn + ", 1)", x.turned(3, 5, turn, 1), 3 * sq + 5 * cq);
            }
        }
        due("turned at the edges", x.turned(1000000, -1000000, 4, 0), 91000000);
        for (int v : new int[] {1000001, -1000001, Integer.MAX_VALUE, LEAST}) {
            due("turned(" + v + ", 0, 0, 0)", x.turned(v, 0, 0, 0), LEAST);
            due("turned(0, " + v + ", 0, 0)", x.turned(0, v, 0, 0), LEAST);
        }
        due("turned(0, 0, 36, 0)", x.turned(0, 0, 36, 0), LEAST);
        due("turned(0, 0, -1, 0)", x.turned(0, 0, -1, 0), LEAST);
        due("turned(0, 0, 0, 2)", x.turned(0, 0, 0, 2), LEAST);
        due("turned(0, 0, 0, -1)", x.turned(0, 0, 0, -1), LEAST);
    }

    private static void fate() {
        promise = 19;
        LayerSounder x = sounder(6);
        //              GOOD, THREE, ODD 1000, ODD 1001, ALONG 20000, ALONG 20001
        fill(x, 0, 2, 1, -128, 1000, 1001, 19999, 20000);
        fill(x, 1, 2, 1, 5, 0, 0, -1, -1);
        fill(x, 2, 2, 1, 6, 0, 0, 19998, 19999);
        fill(x, 3, 2, 1, 7, 0, 0, 0, 0);
        x.ping(0, 0, 0, 6);
        fatesAre(x, "at first", 0, 0, 0, 5, 0, 6);
        x.laws(0, false, 1000);
        fatesAre(x, "no THREES", 0, 4, 0, 5, 0, 6);
        x.laws(0, true, 999);
        fatesAre(x, "BOUND 999", 0, 0, 5, 5, 0, 6);
        x.laws(0, true, 0);
        fatesAre(x, "BOUND 0", 0, 0, 5, 5, 0, 6);
        x.laws(5, false, 0);
        fatesAre(x, "EDGE 5", 0, 3, 3, 3, 3, 3);
        x.laws(6, false, 0);
        fatesAre(x, "EDGE 6", 3, 3, 3, 3, 3, 3);
        x.lose(3);
        fatesAre(x, "a REEL is LOST", 3, 2, 3, 3, 3, 3);
        x.laws(0, false, 1000);
        fatesAre(x, "a REEL is LOST, no THREES", 4, 2, 4, 4, 4, 4);
        x.motion(2);
        fatesAre(x, "no OWN", 1, 1, 1, 1, 1, 1);
        fatesOfAcross();
        due("fate(1, 0)", x.fate(1, 0), -2);
        due("fate(-1, 0)", x.fate(-1, 0), -2);
        due("fate(0, 6)", x.fate(0, 6), -2);
        due("fate(0, -1)", x.fate(0, -1), -2);
        due("no FINDINGS from readings", x.count(5), 0);
    }

    private static void fatesOfAcross() {
        LayerSounder x = sounder(3);
        fill(x, 0, 2, 19998, 0, 40000);
        fill(x, 1, 2, 0, 19999, 0);
        fill(x, 2, 2, 20000, 20000, 1);
        fill(x, 3, 2, -1, -127, 1);
        x.ping(0, 0, 0, 2);
        fatesAre(x, "ACROSS above 20000", 6, 6, 3);
        x.ping(0, 0, 0, 2);
        due("an item that is not there", x.fate(1, 0), 2);
    }

    private static void fatesAre(LayerSounder x, String when, int... wants) {
        for (int c = 0; c < wants.length; c++) {
            due("fate(0, " + c + "), " + when, x.fate(0, c), wants[c]);
        }
    }

    private static void pace() {
        promise = 20;
        LayerSounder x = sounder(2);
        fillPaces(x, 0, new int[] {2, 30000, 1, 4}, new int[] {1, 0, -128, 8});
        fillPaces(x, 4, new int[] {5}, new int[] {-6});
        x.ping(1, 10, 20, 0);
        x.ping(10, 7, 30, 1);
        due("pace(0, 0, 0): 65 (63 2 - 16 1)", x.pace(0, 0, 0), 7150);
        due("pace(0, 0, 1): 65 (16 2 + 63 1)", x.pace(0, 0, 1), 6175);
        x.skew(9);
        due("pace(0, 0, 0) with SKEW 9", x.pace(0, 0, 0), -6175);
        due("pace(0, 0, 1) with SKEW 9", x.pace(0, 0, 1), 7150);
        x.skew(0);
        x.motion(2);
        due("pace(0, 0, 0) by PLACES", x.pace(0, 0, 0), 7150 + 3 * 4225);
        due("pace(0, 0, 1) by PLACES", x.pace(0, 0, 1), 6175 - 10 * 4225);
        due("pace(1, 1, 0): no OWN", x.pace(1, 1, 0), NOT_LONG);
        x.motion(1);
        due("pace(0, 0, 0) by BOTTOM: 65 (63 -3 - 16 7)", x.pace(0, 0, 0), -19565);
        due("pace(0, 0, 1) by BOTTOM: 65 (16 -3 + 63 7)", x.pace(0, 0, 1), 25545);
        due("pace(1, 1, 0): no OWN", x.pace(1, 1, 0), NOT_LONG);
        x.motion(0);
        due("it needs no GOOD CELL", x.fate(0, 0), 3);
        x.put(1, 2, 0, -128);
        x.put(2, 2, 0, -128);
        due("no answer", x.pace(0, 0, 0), NOT_LONG);
        due("pace(0, 0, 2)", x.pace(0, 0, 2), BAD_LONG);
        due("pace(0, 0, -1)", x.pace(0, 0, -1), BAD_LONG);
        due("pace(0, 2, 0)", x.pace(0, 2, 0), BAD_LONG);
        due("pace(0, -1, 0)", x.pace(0, -1, 0), BAD_LONG);
        due("pace(2, 0, 0)", x.pace(2, 0, 0), BAD_LONG);
        due("pace(-1, 0, 0)", x.pace(-1, 0, 0), BAD_LONG);
    }

    private static void fates() {
        promise = 21;
        LayerSounder x = sounder(6);
        fill(x, 0, 2, 1, -128, 1000, 1001, 19999, 20000, 1);
        fill(x, 1, 2, 1, 5, 0, 0, -1, -1, 1);
        fill(x, 2, 2, 1, 6, 0, 0, 19998, 19999, 1);
        fill(x, 3, 2, 1, 7, 0, 0, 0, 0, 1);
        x.ping(0, 0, 0, 16);
        x.ping(0, 0, 0, 0);
        x.laws(0, false, 1000);
        int[] wants = {3, 0, 5, 1, 1, 1, 1};
        for (int fate = 0; fate < wants.length; fate++) {
            due("fates(" + fate + ")", x.fates(fate), wants[fate]);
        }
        x.motion(2);
        due("fates(1) by PLACES", x.fates(1), 6);
        due("fates(7)", x.fates(7), -2);
        due("fates(-1)", x.fates(-1), -2);
    }

    /** Two PINGS of three CELLS: PACES 1 1, 2 -5, none; 4 0, none, 8 -1; times 4225. */
    private static LayerSounder boxes() {
        LayerSounder x = sounder(3);
        fillPaces(x, 0, new int[] {1, 2, 9000, 4, 9000, 8}, new int[] {1, -5, 0, 0, 0, -1});
        x.ping(0, 0, 0, 3);
        x.ping(0, 0, 0, 3);
        return x;
    }

    private static void box() {
        promise = 22;
        LayerSounder x = boxes();
        due("box(0, 1, 0, 2, 0)", x.box(0, 1, 0, 2, 0), 4);
        due("box(0, 1, 0, 2, 1)", x.box(0, 1, 0, 2, 1), 15 * 4225);
        due("box(0, 1, 0, 2, 2)", x.box(0, 1, 0, 2, 2), -5 * 4225);
        due("box(1, 1, 1, 2, 0)", x.box(1, 1, 1, 2, 0), 1);
        due("box(1, 1, 1, 2, 1)", x.box(1, 1, 1, 2, 1), 8 * 4225);
        due("box(0, 1, 1, 1, 2)", x.box(0, 1, 1, 1, 2), -5 * 4225);
        due("a BOX with none", x.box(0, 0, 2, 2, 0), 0);
        due("a BOX with none", x.box(0, 0, 2, 2, 1), 0);
        x.skew(9);
        due("with SKEW 9", x.box(0, 1, 0, 2, 1), 5 * 4225);
        wrongBoxes(x, 0);
        due("box(.., 3)", x.box(0, 1, 0, 2, 3), BAD_LONG);
        due("box(.., -1)", x.box(0, 1, 0, 2, -1), BAD_LONG);
    }

    private static void wrongBoxes(LayerSounder x, int what) {
        int[][] spans = {{1, 0, 0, 2}, {0, 1, 2, 1}, {-1, 1, 0, 2}, {0, 2, 0, 2}, {0, 1, -1, 2}, {0, 1, 0, 3}, {2, 2, 0, 0}};
        for (int[] s : spans) {
            String call = "(" + s[0] + ", " + s[1] + ", " + s[2] + ", " + s[3] + ", ..)";
            due("box" + call, x.box(s[0], s[1], s[2], s[3], what), BAD_LONG);
            due("mean" + call, x.mean(s[0], s[1], s[2], s[3], 1), BAD_LONG);
        }
    }

    private static void mean() {
        promise = 23;
        LayerSounder x = boxes();
        due("mean(0, 1, 0, 2, 1): 63375 by 4", x.mean(0, 1, 0, 2, 1), 15843);
        due("mean(0, 1, 0, 2, 2): -21125 by 4", x.mean(0, 1, 0, 2, 2), -5282);
        due("mean(0, 0, 0, 1, 2): -16900 by 2", x.mean(0, 0, 0, 1, 2), -8450);
        due("mean(0, 0, 2, 2, 1)", x.mean(0, 0, 2, 2, 1), NOT_LONG);
        due("mean(.., 0)", x.mean(0, 1, 0, 2, 0), BAD_LONG);
        due("mean(.., 3)", x.mean(0, 1, 0, 2, 3), BAD_LONG);
        due("BAD is ahead of NOT", x.mean(0, 0, 2, 2, 0), BAD_LONG);
        wrongBoxes(x, 1);
    }

    private static void flow() {
        promise = 24;
        LayerSounder x = sounder(6);
        int odd = 9000;
        fillPaces(x, 0, new int[] {odd, odd, 1, odd, 0, odd}, new int[] {0, 0, 0, 0, 2, 0});
        x.ping(0, 0, 0, 6);
        x.ping(0, 3, 7, 6);
        x.ping(0, 3, 8, 6);
        long first = 7 * 4225;
        long last = -3 * 2 * 4225;
        due("flow(0, 1, 0)", x.flow(0, 1, 0), first + last);
        due("flow(0, 1, 1)", x.flow(0, 1, 1), 3 * first + 2 * last);
        x.laws(1, true, 1000);
        due("flow(0, 1, 1) with EDGE 1: CELL 5 is not BELOW", x.flow(0, 1, 1), 3 * first + 2 * last);
        x.laws(2, true, 1000);
        due("flow(0, 1, 1) with EDGE 2: CELL 2 alone is GOOD", x.flow(0, 1, 1), 6 * first);
        x.laws(6, true, 1000);
        due("flow(0, 1, 1) with none GOOD", x.flow(0, 1, 1), 0);
        x.laws(0, true, 1000);
        due("flow(0, 2, 0): PING 1 has no answers", x.flow(0, 2, 0), first + last);
        due("flow(1, 2, 1)", x.flow(1, 2, 1), 0);
        x.motion(2);
        due("flow(0, 1, 0) by PLACES: along the way nothing is added", x.flow(0, 1, 0), first + last);
        flowBelow(odd);
        due("flow(0, 0, 0)", x.flow(0, 0, 0), BAD_LONG);
        due("flow(1, 0, 0)", x.flow(1, 0, 0), BAD_LONG);
        due("flow(-1, 1, 0)", x.flow(-1, 1, 0), BAD_LONG);
        due("flow(0, 3, 0)", x.flow(0, 3, 0), BAD_LONG);
        due("flow(0, 1, 2)", x.flow(0, 1, 2), BAD_LONG);
        due("flow(0, 1, -1)", x.flow(0, 1, -1), BAD_LONG);
    }

    private static void flowBelow(int odd) {
        LayerSounder x = sounder(6);
        fillPaces(x, 0, new int[] {odd, odd, 1, odd, 0, odd}, new int[] {0, 0, 0, 0, 2, 0});
        x.ping(0, 0, 0, 5);
        x.ping(0, 3, 7, 0);
        due("flow(0, 1, 1) with DEPTH 5: CELL 5 is BELOW", x.flow(0, 1, 1), 3 * 7 * 4225 - 3 * 2 * 4225);
        x.motion(1);
        due("flow(0, 1, 1) without OWN", x.flow(0, 1, 1), 0);
        x = sounder(3);
        fillPaces(x, 0, new int[] {1, 2, odd, 5, 5, 5}, new int[3 + 3]);
        x.ping(0, 0, 0, 3);
        x.ping(0, 0, 10, 3);
        x.ping(0, 0, 30, 3);
        due("flow(0, 1, 1): CELL 0 is GOOD, PING 1 is not in it", x.flow(0, 1, 1), 10 * 4225 * (1 + 2 + 2));
        due("flow(0, 2, 1)", x.flow(0, 2, 1), 10 * 4225 * (1 + 2 + 2) + 20 * 4225 * 15);
    }

    private static void askew() {
        promise = 25;
        LayerSounder x = sounder(1);
        // Out and back over still water with a sounder that stands one TURN askew.
        fillPaces(x, 0, new int[] {63, 63, 0}, new int[] {-16, -16, 0});
        x.ping(0, 0, 0, 1);
        x.ping(18, 65, 0, 1);
        x.ping(0, 0, 0, 1);
        x.motion(2);
        due("askew(0, 0, 1, 1)", x.askew(0, 0, 1, 1), 1);
        due("THE SKEW stays", x.count(3), 0);
        x.skew(20);
        due("whatever THE SKEW is", x.askew(1, 1, 0, 0), 1);
        due("like MISSES: the least TURN", x.askew(0, 0, 0, 0), 0);
        due("one has no GOOD CELL", x.askew(0, 1, 2, 2), -3);
        due("one has no GOOD CELL", x.askew(2, 2, 0, 1), -3);
        x.motion(0);
        due("not by motion: MISS is the greater amount of both", x.askew(0, 0, 1, 1), 6);
        due("askew(0, 3, 0, 0)", x.askew(0, 3, 0, 0), -2);
        due("askew(0, 0, 2, 1)", x.askew(0, 0, 2, 1), -2);
        due("askew(1, 0, 0, 0)", x.askew(1, 0, 0, 0), -2);
        due("askew(-1, 0, 0, 0)", x.askew(-1, 0, 0, 0), -2);
        due("askew(0, 0, -1, 0)", x.askew(0, 0, -1, 0), -2);
        due("BAD is ahead of NOT", new LayerSounder().askew(0, 0, 0, 0), -2);
    }

    private static void closes() {
        promise = 26;
        LayerSounder x = new LayerSounder();
        x.ping(0, 0, 0, 0);
        x.ping(0, 0, 0, 0);
        x.ping(0, 5, -6, 0);
        x.ping(0, -5, 5, 0);
        x.ping(0, 1000000, 1000000, 0);
        x.ping(0, -1000000, -1000000, 0);
        x.ping(0, 1000000, 0, 0);
        due("closes(0, 0): not the next one", x.closes(0, 0), -1);
        due("closes(0, 4)", x.closes(0, 4), -1);
        due("closes(0, 5)", x.closes(0, 5), 3);
        due("closes(0, 6)", x.closes(0, 6), 2);
        due("closes(1, 5)", x.closes(1, 5), 3);
        due("closes(2, 1000000): from its own PLACE", x.closes(2, 1000000), 6);
        due("closes(4, 1000000)", x.closes(4, 1000000), 6);
        due("closes(5, 1000000): none behind", x.closes(5, 1000000), -1);
        due("closes(6, 0)", x.closes(6, 0), -1);
        due("closes(7, 0)", x.closes(7, 0), -2);
        for (int v : WRONG) {
            due("closes(" + v + ", 0)", x.closes(v, 0), -2);
            due("closes(0, " + v + ")", x.closes(0, v), -2);
        }
    }

    private static void count() {
        promise = 27;
        LayerSounder x = sounder(3);
        x.ping(0, 0, 0, 0);
        x.motion(2);
        x.skew(11);
        x.laws(5, false, 77);
        x.reel(0, 0, -1);
        int[] wants = {1, 3, 2, 11, 5, 5, 77, 0};
        for (int what = 0; what < wants.length; what++) {
            due("count(" + what + ")", x.count(what), wants[what]);
        }
        due("count(8)", x.count(8), -2);
        due("count(-1)", x.count(-1), -2);
    }

    private static void digest() {
        promise = 28;
        LayerSounder x = new LayerSounder();
        due("digest() of a new object", x.digest(), folded(17, 0, 4, 0, 0, 0, 1000, 1));
        x = boxes();
        x.mend(1, 9);
        x.laws(1, false, 500);
        x.lose(7);
        long h = folded(17, 2, 3, 0, 0, 1, 500, 0);
        h = folded(h, 0, 0, 0, 3, 1, 0, 4225, 4225, 0, 2 * 4225, -5 * 4225, 3);
        h = folded(h, 9, 0, 0, 3, 1, 0, 0, 4 * 4225, 5, 3);
        due("digest() of two PINGS", x.digest(), h);
        x.get(7, 0, 0);
        due("FINDINGS are not in it", x.digest(), h);
    }

    private static long folded(long h, long... values) {
        long sum = h;
        for (long v : values) {
            sum = 31 * sum + v;
        }
        return sum;
    }
}
