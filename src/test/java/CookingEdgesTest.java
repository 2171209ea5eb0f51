/**
 * Terms I and promises 1 to 14 at their edges: each sentence of the document that names one has a
 * test of its own here, with that sentence above it.
 */
public final class CookingEdgesTest {
    private static final int NONE = SugarKitchen.NONE;
    private static final int NO_TOP = Kitchens.NO_TOP;
    private static final int MIN = Integer.MIN_VALUE;
    private static final int MAX = Integer.MAX_VALUE;
    /** Of the busy kitchen's batches. */
    private static final int[] COOKED = {0, 1, 2, 3, 6, 8, 10, 11};
    private static final int[] RAW = {4, 5, 7, 9};
    private static final int[] NO_BATCH = {-1, 12, 40, MIN, MAX};
    private static final Due DUE = new Due("CookingEdgesTest");
    private static final Edges EDGES = new Edges(DUE);

    public static void main(String[] args) {
        newObject();
        lot();
        batch();
        put();
        row();
        tickAndStir();
        degrees();
        ticks();
        table();
        lost();
        grained();
        bounds();
        cook();
        vouch();
        why();
        batchOf();
        DUE.end();
    }

    private static void is(String what, int want, int got) {
        DUE.is(what, want, got);
    }

    private static void is(String what, boolean want, boolean got) {
        DUE.is(what, want, got);
    }

    // ---- Promise 1

    private static void newObject() {
        beginsWithNothing();
        beginsItsNumbersAnew();
    }

    /** "No lots, batches, pieces, boxes; an empty TABLE and QUEUE." */
    private static void beginsWithNothing() {
        SugarKitchen k = new SugarKitchen();
        for (int what = 0; what < 7; what++) {
            is("1 about " + what, 0, k.about(what));
        }
        for (int spot = 0; spot < 144; spot++) {
            is("1 at " + spot, NONE, k.at(spot / 24, spot % 24));
        }
        is("1 no lot", NONE, k.left(0));
        is("1 no batch", NONE, k.batchOf(0, 0));
        is("1 no piece", NONE, k.pieceOf(0, 0));
        is("1 no box", NONE, k.boxOf(0, 0));
        is("1 the order of none takes no minutes", 0, k.order(false, NONE));
        is("1 the order of none, nuts last", 0, k.order(true, NONE));
        is("1 the order of none has no first", NONE, k.order(false, 0));
    }

    private static void beginsItsNumbersAnew() {
        Kitchens.busy();
        SugarKitchen k = new SugarKitchen();
        is("1 first lot", 0, k.lot(1000, 0));
        is("1 first batch", 0, k.batch(3));
        is("1 first row of the TABLE", 1, k.table(0, 0));
        is("1 first in the QUEUE", 1, k.queue(0));
        k.put(0, 0, 100);
        k.cook(0, 1);
        k.vouch(0);
        is("1 first cut", 1, k.cut(0, 100, 1));
        is("1 first piece", 100, k.pieceOf(0, 1));
        k.place(0, 0, 0);
        is("1 first box", 0, k.pack(1, 100, 0));
    }

    // ---- Promises 2 and 3

    private static void lot() {
        lotsAmount();
        lotsWarnings();
        fortyLots();
    }

    /** "A lot of so much (0 .. 1000000)" */
    private static void lotsAmount() {
        EDGES.range("2 amount", Kitchens::busy, 0, 1000000, (k, v) -> k.lot(v, 7));
        SugarKitchen k = new SugarKitchen();
        is("2 nothing is taken", 0, k.lot(0, 0));
        is("2 nothing is what it has", 0, k.left(0));
        is("2 a million is taken", 1, k.lot(1000000, 0));
        is("2 a million is what it has", 1000000, k.left(1));
    }

    /** "WARNINGS (0 .. 255)" */
    private static void lotsWarnings() {
        EDGES.range("2 WARNINGS", Kitchens::busy, 0, 255, (k, v) -> k.lot(7, v));
        is("2 WARNINGS 0", 0, warningsOfABoxWith(0));
        is("2 WARNINGS 255", 255, warningsOfABoxWith(255));
    }

    /** "LOTS 0 .. 39"; "or if there are 40" */
    private static void fortyLots() {
        SugarKitchen full = Kitchens.fortyLots();
        is("2 40 there are", 40, full.about(0));
        is("2 the last is 39", 1000000, full.left(39));
        is("2 there is no 40", NONE, full.left(40));
        EDGES.refused("2 the 41st", Kitchens::fortyLots, k -> k.lot(5, 5));
        EDGES.refused("2 the 41st of nothing", Kitchens::fortyLots, k -> k.lot(0, 0));
        is("2 the 40th", 39, thirtyNineLots().lot(0, 0));
    }

    private static SugarKitchen thirtyNineLots() {
        SugarKitchen k = new SugarKitchen();
        for (int i = 0; i < 39; i++) {
            k.lot(i, i);
        }
        return k;
    }

    private static int warningsOfABoxWith(int warnings) {
        SugarKitchen k = new SugarKitchen();
        k.lot(100, warnings);
        Kitchens.good(k, 3, 0, 100);
        k.cut(0, 100, 1);
        k.place(0, 0, 0);
        k.pack(1, 100, 0);
        return k.boxOf(0, 3);
    }

    private static void batch() {
        batchesKind();
        fortyBatches();
    }

    /** "NONE: no such KIND" */
    private static void batchesKind() {
        EDGES.range("3 KIND", Kitchens::busy, 0, 5, SugarKitchen::batch);
        for (int kind = 0; kind < 6; kind++) {
            SugarKitchen k = Kitchens.busy();
            is("3 the next number", 12, k.batch(kind));
            is("3 its KIND", kind, k.batchOf(12, 0));
        }
    }

    /** "BATCHES 0 .. 39"; "or there are 40" */
    private static void fortyBatches() {
        SugarKitchen full = Kitchens.fortyBatches();
        is("3 40 there are", 40, full.about(1));
        is("3 the last is 39", 39 % 6, full.batchOf(39, 0));
        is("3 there is no 40", NONE, full.batchOf(40, 0));
        for (int kind = 0; kind < 6; kind++) {
            int of = kind;
            EDGES.refused("3 the 41st of KIND " + kind, Kitchens::fortyBatches, k -> k.batch(of));
        }
        SugarKitchen k = new SugarKitchen();
        for (int i = 0; i < 39; i++) {
            k.batch(0);
        }
        is("3 the 40th", 39, k.batch(5));
    }

    // ---- Promise 4

    private static void put() {
        putAmounts();
        putIntoCooked();
        putOfNoSuch();
        putAllThereCanBe();
    }

    /** "So much (1 .. what it has) of a lot": the busy kitchen's lot 2 has 60, its lot 3 nothing. */
    private static void putAmounts() {
        is("4 what it has", 60, Kitchens.busy().left(2));
        EDGES.range("4 amount", Kitchens::busy, 1, 60, (k, v) -> k.put(9, 2, v));
        SugarKitchen k = Kitchens.busy();
        is("4 the least", 11, k.put(9, 2, 1));
        is("4 all that is left", 70, k.put(9, 2, 59));
        is("4 nothing left", 0, k.left(2));
        is("4 not one more", NONE, k.put(9, 2, 1));
        EDGES.refused("4 of an empty lot", Kitchens::busy, q -> q.put(9, 3, 1));
        EDGES.refused("4 nothing of an empty lot", Kitchens::busy, q -> q.put(9, 3, 0));
    }

    /** "goes into a batch that isn't cooked" */
    private static void putIntoCooked() {
        for (int cooked : COOKED) {
            EDGES.refused("4 into a cooked one, " + cooked, Kitchens::busy,
                    k -> k.put(cooked, 0, 5));
        }
        for (int raw : RAW) {
            SugarKitchen k = Kitchens.busy();
            is("4 into a raw one, " + raw, k.batchOf(raw, 1) + 5, k.put(raw, 0, 5));
        }
    }

    /** "NONE, changing nothing, for others." */
    private static void putOfNoSuch() {
        EDGES.none("4 no such batch", Kitchens::busy, (k, v) -> k.put(v, 0, 5), -1, 12, 40);
        EDGES.none("4 no such lot", Kitchens::busy, (k, v) -> k.put(9, v, 5), -1, 4, 40);
    }

    /** The last lot into the last batch, and all there can be in one. */
    private static void putAllThereCanBe() {
        SugarKitchen k = Kitchens.fortyLots();
        for (int i = 0; i < 40; i++) {
            k.batch(0);
        }
        for (int lot = 0; lot < 40; lot++) {
            is("4 lot " + lot + " into 39", 1000000 * (lot + 1), k.put(39, lot, 1000000));
        }
        is("4 all there can be", 40000000, k.batchOf(39, 2));
        is("4 another has none of it", 0, k.batchOf(38, 1));
    }

    // ---- Promises 5 to 7

    private static void row() {
        rowsLength();
        rowsWhich();
        rowOfNoSuch();
        rowOfACookedOne();
        renewedRows();
    }

    /** "so many places (0 .. 60) [..]; NONE: it is MISSING: true"; "Both are MISSING at first" */
    private static void rowsLength() {
        EDGES.ask("5 length", Kitchens::busy, NONE, 60, (k, v) -> k.row(4, 0, v));
        EDGES.ask("5 length of the STIRRING row", Kitchens::busy, NONE, 60,
                (k, v) -> k.row(5, 1, v));
        for (int which = 0; which < 2; which++) {
            rowsOfLength(which);
        }
    }

    /** "THERMOMETER row (which 0) or STIRRING row (1)" */
    private static void rowsWhich() {
        EDGES.ask("5 which", Kitchens::busy, 0, 1, (k, v) -> k.row(5, v, 5));
        EDGES.ask("5 which is MISSING", Kitchens::busy, 0, 1, (k, v) -> k.row(5, v, NONE));
    }

    /** "False, changing nothing, for others" */
    private static void rowOfNoSuch() {
        for (int v : NO_BATCH) {
            EDGES.denied("5 no such batch " + v, Kitchens::busy, k -> k.row(v, 0, 5));
        }
    }

    /** "or if it is cooked" */
    private static void rowOfACookedOne() {
        for (int cooked : COOKED) {
            EDGES.denied("5 cooked " + cooked, Kitchens::busy, k -> k.row(cooked, 0, 5));
            EDGES.denied("5 cooked " + cooked, Kitchens::busy, k -> k.row(cooked, 1, 60));
            EDGES.denied("5 cooked " + cooked, Kitchens::busy, k -> k.row(cooked, 0, NONE));
        }
    }

    private static boolean there(SugarKitchen k, int which, int place) {
        return which == 0 ? k.tick(0, place, 0) : k.stir(0, place, false);
    }

    private static void rowsOfLength(int which) {
        SugarKitchen k = new SugarKitchen();
        k.batch(0);
        is("5 MISSING at first", false, there(k, which, 0));
        for (int length : new int[] {1, 60, 59, 0, 2, NONE}) {
            is("5 length " + length, true, k.row(0, which, length));
            for (int place : new int[] {0, 1, 2, 58, 59}) {
                is("5 of " + length + " the place " + place, place < length,
                        there(k, which, place));
            }
            is("5 place 60", false, there(k, which, 60));
            is("5 the other row is MISSING still", false, there(k, 1 - which, 0));
        }
    }

    /** "all 0, or no": also where an older and longer row had something else. */
    private static void renewedRows() {
        SugarKitchen k = Kitchens.oneLot();
        k.grain(MIN, MAX);
        int b = Kitchens.raw(k, 1, 10, true, -1f, -2f, -3f, 90f);
        k.row(b, 0, 1);
        k.row(b, 0, 4);
        k.cook(b, 4);
        is("5 all 0", 0, k.batchOf(b, 5));
        is("5 the STIRRING row stays", 1, k.batchOf(b, 7));
        int c = Kitchens.raw(k, 1, 10, true, 90f, 80f, 70f);
        k.row(c, 1, NONE);
        k.row(c, 1, 3);
        k.cook(c, 3);
        is("5 all no", 0, k.batchOf(c, 6));
        is("5 the THERMOMETER row stays", 900, k.batchOf(c, 5));
    }

    private static void tickAndStir() {
        placesOfARow();
        tickOfNoSuch();
        tickOfACookedOne();
        placesOfAMissingRow();
        anyBits();
        theLastOfSixty();
    }

    /** "False: no such [..] place": the rows of batch 4 have 5 places. */
    private static void placesOfARow() {
        EDGES.ask("6 place", Kitchens::busy, 0, 4, (k, v) -> k.tick(4, v, 77));
        EDGES.ask("7 place", Kitchens::busy, 0, 4, (k, v) -> k.stir(4, v, true));
    }

    /** "False: no such batch" */
    private static void tickOfNoSuch() {
        for (int v : NO_BATCH) {
            EDGES.denied("6 no such batch " + v, Kitchens::busy, k -> k.tick(v, 0, 77));
            EDGES.denied("7 no such batch " + v, Kitchens::busy, k -> k.stir(v, 0, true));
        }
    }

    /** "or it is cooked" */
    private static void tickOfACookedOne() {
        for (int cooked : COOKED) {
            EDGES.denied("6 cooked " + cooked, Kitchens::busy, k -> k.tick(cooked, 0, 77));
            EDGES.denied("7 cooked " + cooked, Kitchens::busy, k -> k.stir(cooked, 0, true));
        }
    }

    private static void placesOfAMissingRow() {
        for (int place : new int[] {NONE, 0, 1}) {
            EDGES.denied("6 MISSING, " + place, Kitchens::busy, k -> k.tick(7, place, 77));
            EDGES.denied("7 MISSING, " + place, Kitchens::busy, k -> k.stir(7, place, true));
        }
    }

    /** "The THERMOMETER's place gets the float with these bits" */
    private static void anyBits() {
        for (int bits : new int[] {MIN, -1, 0, 1, MAX, 0x7f800000, 0x7f800001}) {
            SugarKitchen k = Kitchens.busy();
            k.row(9, 0, 60);
            is("6 bits " + bits, true, k.tick(9, 59, bits));
            is("6 no place 60", false, k.tick(9, 60, bits));
        }
    }

    private static void theLastOfSixty() {
        SugarKitchen k = Kitchens.oneLot();
        k.grain(-10, -10);
        int b = Kitchens.raw(k, 1, 10, false, new float[60]);
        k.tick(b, 59, Kitchens.bits(-1f));
        k.stir(b, 59, true);
        k.cook(b, 60);
        is("7 stirred at 59", 59, k.batchOf(b, 7));
    }

    // ---- Terms I: degrees and ticks

    private static SugarKitchen cookedBits(int kind, int... bits) {
        SugarKitchen k = Kitchens.oneLot();
        k.table(MIN, 100);
        k.table(0, 200);
        k.batch(kind);
        k.put(0, 0, 10);
        k.row(0, 0, bits.length);
        for (int i = 0; i < bits.length; i++) {
            k.tick(0, i, bits[i]);
        }
        k.cook(0, bits.length);
        return k;
    }

    private static void degrees() {
        tenTimesCut();
        tooLargeForAnInt();
        noNumberIsNotRead();
    }

    /** "its DEGREE is ten times it (a float), cut to a whole (as Java casts a float to an int)" */
    private static void tenTimesCut() {
        for (float f : new float[] {0f, -0f, Float.MIN_VALUE, -Float.MIN_VALUE, Float.MIN_NORMAL,
            0.09999999f, 0.1f, 0.10000001f, -0.09999999f, -0.1f, -0.19999999f, -0.2f, 99.99f,
            99.999999f, 100f, 0.7f, 4.35f, 8.2f, 64.1f, 1677721.5f, 1677721.6f, 1677721.75f,
            16777216f, 16777217f, 16777218f}) {
            is("6 ten times " + f, (int) (f * 10f), cookedBits(0, Kitchens.bits(f)).batchOf(0, 5));
        }
        is("6 a float's product, not a double's", 1,
                cookedBits(0, Kitchens.bits(0.1f)).batchOf(0, 5));
        is("6 0.99 is cut", 0, cookedBits(0, Kitchens.bits(0.099f)).batchOf(0, 5));
        is("6 -0.99 is cut towards 0", 0, cookedBits(0, Kitchens.bits(-0.099f)).batchOf(0, 5));
        is("6 -1.99 is cut towards 0", -1, cookedBits(0, Kitchens.bits(-0.199f)).batchOf(0, 5));
    }

    private static void tooLargeForAnInt() {
        int[] edge = {Kitchens.bits(2.14748365E8f), Kitchens.bits(2.147483648E9f),
            Kitchens.bits(4.294967296E9f), Kitchens.bits(Float.MAX_VALUE)};
        for (int start : edge) {
            for (int bits = start - 3; bits <= start + 3 && bits <= 0x7f800000; bits++) {
                float f = Float.intBitsToFloat(bits);
                is("6 ten times " + f, (int) (f * 10f), cookedBits(0, bits).batchOf(0, 5));
                is("6 ten times -" + f, (int) (-f * 10f), cookedBits(0, bits | MIN).batchOf(0, 5));
            }
        }
        is("6 infinite", MAX, cookedBits(0, 0x7f800000).batchOf(0, 5));
        is("6 infinite below", MIN, cookedBits(0, 0xff800000).batchOf(0, 5));
        is("6 infinite below has a LOSS", 100, cookedBits(0, 0xff800000).batchOf(0, 4));
        is("6 bits MIN_VALUE are -0", 0, cookedBits(0, MIN).batchOf(0, 5));
        is("6 bits MAX_VALUE are no number", NO_TOP, cookedBits(0, MAX).batchOf(0, 5));
    }

    /** "one that is no number is not read"; "(of none that is a number: one)" */
    private static void noNumberIsNotRead() {
        for (int bits : new int[] {0x7f800001, 0x7fbfffff, 0x7fc00000, MAX, 0xff800001, 0xffc00000,
            -1}) {
            SugarKitchen k = cookedBits(0, bits, bits);
            is("6 no number " + bits + ": no TOP", NO_TOP, k.batchOf(0, 5));
            is("6 no number " + bits + ": no LOSS", 0, k.batchOf(0, 4));
            is("6 no number " + bits + ": not DOUBTFUL", 0, k.why(0));
            is("6 no number " + bits + ": no tick to tell", NONE, k.batchOf(0, 7));
            is("6 a number ahead", -5, cookedBits(0, Kitchens.bits(-.5f), bits).batchOf(0, 5));
            is("6 a number behind", -5, cookedBits(0, bits, Kitchens.bits(-.5f)).batchOf(0, 5));
        }
    }

    private static SugarKitchen cookedOver(int length, int ticks) {
        SugarKitchen k = Kitchens.oneLot();
        k.batch(0);
        k.put(0, 0, 1000);
        k.row(0, 0, length);
        for (int i = 0; i < length; i++) {
            k.tick(0, i, Kitchens.bits(i + 1f));
        }
        k.cook(0, ticks);
        return k;
    }

    private static void ticks() {
        ticksThatAreNotThere();
        topIsTheGreatestRead();
        ticksEndAheadOfIt();
    }

    /** "a tick whose place isn't there (of the THERMOMETER) makes it DOUBTFUL" */
    private static void ticksThatAreNotThere() {
        int[][] rows = {{NONE, 1, 0}, {NONE, 60, 0}, {0, 1, 0}, {0, 60, 0}, {1, 2, 1}, {1, 60, 1},
            {4, 5, 4}, {59, 60, 59}};
        for (int[] r : rows) {
            SugarKitchen k = cookedOver(r[0], r[1]);
            String what = "11 " + r[1] + " ticks of " + r[0];
            is(what + ": DOUBTFUL", 2, k.why(0));
            is(what + ": which was not there", r[2], k.batchOf(0, 7));
            is(what + ": TOP of those ahead", r[2] == 0 ? NO_TOP : 10 * r[2], k.batchOf(0, 5));
        }
        for (int[] r : new int[][] {{1, 1}, {2, 1}, {5, 5}, {60, 1}, {60, 59}, {60, 60}}) {
            SugarKitchen k = cookedOver(r[0], r[1]);
            String what = "11 " + r[1] + " ticks of " + r[0];
            is(what + ": not DOUBTFUL", 0, k.why(0));
            is(what + ": none to tell", NONE, k.batchOf(0, 7));
            is(what + ": no tick behind is read", 10 * r[1], k.batchOf(0, 5));
        }
    }

    /** "TOP is the greatest DEGREE read (none: NONE has no TOP)." */
    private static void topIsTheGreatestRead() {
        int minus = Kitchens.bits(-7.5f);
        int less = Kitchens.bits(-8.5f);
        is("14 all below 0", -75, cookedBits(0, less, minus, less).batchOf(0, 5));
        is("14 the first", -75, cookedBits(0, minus, less).batchOf(0, 5));
        is("14 the last", -75, cookedBits(0, less, less, minus).batchOf(0, 5));
        is("14 all infinite below", MIN, cookedBits(0, 0xff800000, 0xff800000).batchOf(0, 5));
        // A degree that is the very number told for no TOP is one nevertheless.
        SugarKitchen odd = cookedBits(0, Kitchens.bits(-100000.1f));
        is("14 a TOP of -1000001", NO_TOP, odd.batchOf(0, 5));
        is("14 a TOP of -1000001 has a LOSS", 100, odd.batchOf(0, 4));
    }

    /** "and the ticks end ahead of it": neither TOP nor GRAINED comes from behind. */
    private static void ticksEndAheadOfIt() {
        SugarKitchen k = Kitchens.oneLot();
        k.grain(MIN, MAX);
        int b = Kitchens.raw(k, 1, 10, false, 90f, 80f);
        k.row(b, 1, 60);
        for (int i = 2; i < 60; i++) {
            k.stir(b, i, true);
        }
        k.cook(b, 60);
        is("14 stirred where no degree was", 0, k.batchOf(b, 6));
        is("14 the first that was not there", 2, k.batchOf(b, 7));
    }

    // ---- Promise 8

    private static void table() {
        tablesLoss();
        tablesDegrees();
        sixteenRows();
        lossByTheTable();
        lossAtTheEndsOfInt();
    }

    /** "each with a LOSS 0 .. 900" */
    private static void tablesLoss() {
        EDGES.range("8 LOSS", Kitchens::busy, 0, 900, (k, v) -> k.table(1001, v));
    }

    /** "from a degree on (above those that are there)": the busy kitchen's last row is at 1000. */
    private static void tablesDegrees() {
        EDGES.refused("8 the same degree", Kitchens::busy, k -> k.table(1000, 5));
        EDGES.refused("8 a degree below", Kitchens::busy, k -> k.table(999, 5));
        EDGES.refused("8 below all", Kitchens::busy, k -> k.table(-1, 5));
        EDGES.refused("8 the least int", Kitchens::busy, k -> k.table(MIN, 5));
        is("8 one above", 4, Kitchens.busy().table(1001, 5));
        is("8 the greatest int", 4, Kitchens.busy().table(MAX, 5));
    }

    /** "up to 16 degrees"; "or if there are 16" */
    private static void sixteenRows() {
        is("8 16 there are", 16, Kitchens.sixteenRows().about(4));
        EDGES.refused("8 the 17th", Kitchens::sixteenRows, k -> k.table(1501, 5));
        EDGES.refused("8 the 17th at the end of int", Kitchens::sixteenRows, k -> k.table(MAX, 0));
        SugarKitchen k = new SugarKitchen();
        for (int i = 0; i < 15; i++) {
            k.table(i, i);
        }
        is("8 the 16th", 16, k.table(15, 0));
    }

    private static int lossAt(SugarKitchen k, float degree) {
        return k.batchOf(Kitchens.cooked(k, 0, 1000, false, degree), 4);
    }

    /** "that of the last one not above TOP; 0, if there is none such, or no TOP" */
    private static void lossByTheTable() {
        SugarKitchen k = Kitchens.sixteenRows();
        is("8 ahead of the first", 0, lossAt(k, -0.1f));
        for (int i : new int[] {1, 2, 8, 15}) {
            is("8 at row " + i, 10 * i, lossAt(k, 10f * i));
            is("8 ahead of row " + i, 10 * (i - 1), lossAt(k, 10f * i - 0.1f));
        }
        is("8 behind the last", 150, lossAt(k, 1e6f));
        is("8 no TOP", 0, lossAt(k, Float.NaN));
        is("8 an empty TABLE", 0, lossAt(Kitchens.oneLot(), 1e6f));
        SugarKitchen down = Kitchens.oneLot();
        down.table(10, 900);
        down.table(11, 0);
        is("8 at the first", 900, lossAt(down, 1f));
        is("8 it may go down", 0, lossAt(down, 1.1f));
        is("8 ahead of both", 0, lossAt(down, 0.9f));
    }

    private static void lossAtTheEndsOfInt() {
        SugarKitchen k = Kitchens.oneLot();
        is("8 the least int first", 1, k.table(MIN, 7));
        is("8 the greatest int", 2, k.table(MAX, 9));
        is("8 nothing is above", NONE, k.table(MAX, 9));
        is("8 TOP at the least int", 7, lossAt(k, Float.NEGATIVE_INFINITY));
        is("8 TOP at the greatest int", 9, lossAt(k, Float.POSITIVE_INFINITY));
        is("8 TOP between", 7, lossAt(k, 0f));
        is("8 no TOP is below all", 0, lossAt(k, Float.NaN));
    }

    /** "Cooking takes MASS * LOSS / 1000 (cut): that is LOST." */
    private static void lost() {
        int[][] rows = {{1, 900, 0}, {2, 900, 1}, {1, 0, 0}, {9, 111, 0}, {10, 99, 0}, {10, 100, 1},
            {10, 199, 1}, {999, 1, 0}, {1000, 1, 1}, {1999, 1, 1}, {1000000, 900, 900000}};
        for (int[] r : rows) {
            SugarKitchen k = Kitchens.oneLot();
            k.table(0, r[1]);
            int b = Kitchens.raw(k, 0, r[0], false, 0f);
            is("11 MASS of " + r[0] + " by " + r[1], r[0] - r[2], k.cook(b, 1));
            is("14 LOST of " + r[0] + " by " + r[1], r[2], k.batchOf(b, 3));
        }
        SugarKitchen all = Kitchens.fortyLots();
        all.table(0, 900);
        all.batch(0);
        for (int lot = 0; lot < 40; lot++) {
            all.put(0, lot, 1000000);
        }
        all.row(0, 0, 1);
        is("11 of all there can be", 4000000, all.cook(0, 1));
        is("14 LOST of all there can be", 36000000, all.batchOf(0, 3));
    }

    // ---- Promise 9 and GRAINED

    private static int grainedAt(int low, int high, boolean stirred, float... degrees) {
        SugarKitchen k = Kitchens.oneLot();
        is("9 always true", true, k.grain(low, high));
        return k.batchOf(Kitchens.cooked(k, 1, 10, stirred, degrees), 7);
    }

    private static void grained() {
        grainsEdges();
        behindTheFirstAtTop();
        stirredOrNot();
    }

    /** "GRAIN (two told degrees, at first 0 and -1)"; "true, always" */
    private static void grainsEdges() {
        is("9 the lower", 1, grainedAt(600, 700, true, 90f, 60f));
        is("9 below", NONE, grainedAt(600, 700, true, 90f, 59.9f));
        is("9 the upper", 1, grainedAt(600, 700, true, 90f, 70f));
        is("9 above", NONE, grainedAt(600, 700, true, 90f, 70.1f));
        is("9 one degree", 1, grainedAt(650, 650, true, 90f, 65f));
        is("9 beside one degree", NONE, grainedAt(650, 650, true, 90f, 64.9f, 65.1f));
        is("9 turned round", NONE, grainedAt(651, 650, true, 90f, 65f, 65.1f));
        is("9 all there are", 1, grainedAt(MIN, MAX, true, 90f, Float.NEGATIVE_INFINITY));
        is("9 the least int alone", 1, grainedAt(MIN, MIN, true, 90f, Float.NEGATIVE_INFINITY));
        is("9 the greatest int alone", 1, grainedAt(MAX, MAX, true, 3e38f, 3e38f));
        is("9 all turned round", NONE, grainedAt(MAX, MIN, true, 90f, 0f, -1e30f));
        SugarKitchen k = Kitchens.oneLot();
        int first = Kitchens.cooked(k, 1, 10, true, 90f, 0f, -0.1f, -0.05f);
        is("9 at first nothing is within", NONE, k.batchOf(first, 7));
        is("9 told for later batches", true, k.grain(-1, 0));
        is("9 not for one that is cooked", 0, k.batchOf(first, 6));
        is("9 nor does it become GOOD", 5, k.why(first));
    }

    /** "at some tick that was cooked, behind the first one at TOP" */
    private static void behindTheFirstAtTop() {
        is("9 at TOP itself", NONE, grainedAt(MIN, MAX, true, 65f));
        is("9 ahead of it", NONE, grainedAt(MIN, MAX, true, 64f, 65f));
        is("9 just behind", 1, grainedAt(MIN, MAX, true, 65f, 64f));
        is("9 at TOP again", 1, grainedAt(650, 650, true, 65f, 65f));
        is("9 like DEGREES, other floats", 1, grainedAt(650, 650, true, 65f, 65.05f));
        is("9 the first of some", 2, grainedAt(640, 640, true, 65f, 60f, 64f, 64f));
        is("9 behind the last only", 3, grainedAt(MIN, MAX, true, 1f, 2f, 3f, 2f));
        is("9 no number at TOP's place", 2, grainedAt(MIN, MAX, true, Float.NaN, 3f, 2f));
        is("9 no number behind", NONE, grainedAt(MIN, MAX, true, 3f, Float.NaN));
        is("9 none that is a number", NONE, grainedAt(MIN, MAX, true, Float.NaN, Float.NaN));
        is("9 all infinite below", 1, grainedAt(MIN, MIN, true, Float.NEGATIVE_INFINITY,
                Float.NEGATIVE_INFINITY));
        SugarKitchen k = Kitchens.oneLot();
        k.grain(MIN, MAX);
        int b = Kitchens.raw(k, 1, 10, true, 65f, 64f);
        k.cook(b, 1);
        is("9 a tick that was not cooked", 0, k.batchOf(b, 6));
        float[] sixty = new float[60];
        sixty[58] = 1f;
        is("9 the last of 60", 59, grainedAt(MIN, MAX, true, sixty));
    }

    /** "it was stirred (a place that isn't there: no)" */
    private static void stirredOrNot() {
        is("9 not stirred", NONE, grainedAt(MIN, MAX, false, 65f, 64f));
        for (int length : new int[] {NONE, 0, 1, 2, 3}) {
            SugarKitchen k = Kitchens.oneLot();
            k.grain(MIN, MAX);
            int b = Kitchens.raw(k, 1, 10, false, 65f, 64f, 63f);
            k.row(b, 1, length);
            for (int i = 0; i < 3; i++) {
                k.stir(b, i, true);
            }
            k.stir(b, 1, false);
            k.cook(b, 3);
            is("9 a STIRRING row of " + length, length == 3 ? 2 : NONE, k.batchOf(b, 7));
            is("9 without a place it isn't DOUBTFUL", length == 3 ? 0 : 5, k.why(b));
        }
    }

    // ---- Promise 10

    private static void bounds() {
        boundsOfNoSuchKind();
        boundsAtFirst();
        for (int kind = 0; kind < 6; kind++) {
            boundsOf(kind);
        }
    }

    /** "False: no such KIND." */
    private static void boundsOfNoSuchKind() {
        EDGES.ask("10 KIND", Kitchens::busy, 0, 5, (k, v) -> k.bounds(v, 1000, 1000));
    }

    /** "LOSS within the two BOUNDS of its KIND (at first 0 and 900)" */
    private static void boundsAtFirst() {
        for (int kind = 0; kind < 6; kind++) {
            for (int loss : new int[] {0, 900}) {
                is("10 at first " + loss + " is within, KIND " + kind, 0,
                        withLoss(kind, loss).why(0));
            }
        }
    }

    /** One batch of a KIND, GRAINED if it must be, of a LOSS. */
    private static SugarKitchen withLoss(int kind, int loss) {
        SugarKitchen k = Kitchens.oneLot();
        k.grain(MIN, MAX);
        k.table(0, loss);
        Kitchens.cooked(k, kind, 1000, kind == 1 || kind == 3 || kind == 4, 90f, 80f);
        return k;
    }

    /** "BOUNDS of a KIND's LOSS (any)" */
    private static void boundsOf(int kind) {
        int[][] rows = {{250, 250, 0}, {251, 900, 3}, {0, 249, 4}, {250, MAX, 0}, {MIN, 250, 0},
            {MIN, MAX, 0}, {MAX, MIN, 3}, {MIN, MIN, 4}, {MAX, MAX, 3}, {251, 249, 3},
            {250, 249, 4}, {251, 250, 3}};
        SugarKitchen k = withLoss(kind, 250);
        for (int[] r : rows) {
            is("10 taken", true, k.bounds(kind, r[0], r[1]));
            is("10 250 within " + r[0] + " and " + r[1], r[2], k.why(0));
            k.bounds(kind, 0, 900);
            is("10 back", 0, k.why(0));
        }
        for (int other = 0; other < 6; other++) {
            k.bounds(other, other == kind ? 0 : 901, 900);
        }
        is("10 those of other KINDS are others", 0, k.why(0));
    }

    // ---- Promises 11 to 13

    private static void cook() {
        cooksTicks();
        cookNoSuch();
        cookTwice();
        cookNothing();
    }

    /** "over 1 .. 60 ticks" */
    private static void cooksTicks() {
        EDGES.range("11 ticks", Kitchens::busy, 1, 60, (k, v) -> k.cook(4, v));
    }

    /** "no such batch" */
    private static void cookNoSuch() {
        EDGES.none("11 no such batch", Kitchens::busy, (k, v) -> k.cook(v, 3), -1, 12, 40);
        SugarKitchen k = Kitchens.fortyBatches();
        k.put(39, 0, 5);
        is("11 the last batch", 5, k.cook(39, 60));
    }

    /** "it is cooked" */
    private static void cookTwice() {
        for (int cooked : COOKED) {
            EDGES.refused("11 cooked " + cooked, Kitchens::busy, k -> k.cook(cooked, 3));
        }
    }

    /** "or has no MASS" */
    private static void cookNothing() {
        EDGES.refused("11 no MASS", Kitchens::busy, k -> k.cook(7, 3));
        EDGES.refused("11 no MASS, but rows", () -> {
            SugarKitchen k = Kitchens.busy();
            k.row(7, 0, 3);
            k.row(7, 1, 3);
            return k;
        }, k -> k.cook(7, 3));
        SugarKitchen k = Kitchens.oneLot();
        k.batch(0);
        k.put(0, 0, 1);
        is("11 the least MASS", 1, k.cook(0, 1));
    }

    private static void vouch() {
        vouchForCooked();
        vouchForOthers();
    }

    /** "A hand vouches for a cooked batch: true." */
    private static void vouchForCooked() {
        SugarKitchen k = Kitchens.busy();
        for (int cooked : COOKED) {
            is("12 cooked " + cooked, true, k.vouch(cooked));
            is("12 GOOD " + cooked, 0, k.why(cooked));
            is("12 vouched for " + cooked, 1, k.batchOf(cooked, 8));
        }
    }

    /** "False for others." */
    private static void vouchForOthers() {
        for (int v : NO_BATCH) {
            EDGES.denied("12 no such batch " + v, Kitchens::busy, k -> k.vouch(v));
        }
        for (int raw : RAW) {
            EDGES.denied("12 not cooked " + raw, Kitchens::busy, k -> k.vouch(raw));
        }
        SugarKitchen k = Kitchens.busy();
        k.vouch(4);
        k.cook(4, 60);
        is("12 an earlier no is no yes for later", 2, k.why(4));
    }

    private static void why() {
        whyOfNoSuch();
        for (int kind = 0; kind < 6; kind++) {
            whyOf(kind);
        }
    }

    /** "NONE: no such batch." */
    private static void whyOfNoSuch() {
        EDGES.none("13 no such batch", Kitchens::busy, SugarKitchen::why, -1, 12, 40);
    }

    /** "the first of these": each reason with all the later ones there as well. */
    private static void whyOf(int kind) {
        boolean must = kind == 1 || kind == 3 || kind == 4;
        boolean mustNot = kind == 2;
        SugarKitchen k = Kitchens.oneLot();
        k.grain(MIN, MAX);
        k.bounds(kind, 901, -1);
        int b = Kitchens.raw(k, kind, 1000, mustNot, 90f, 80f);
        is("13 not cooked comes first", 1, k.why(b));
        k.cook(b, 3);
        is("13 then DOUBTFUL", 2, k.why(b));
        int c = Kitchens.cooked(k, kind, 1000, mustNot, 90f, 80f);
        is("13 then too low", 3, k.why(c));
        k.bounds(kind, 0, -1);
        is("13 then too high", 4, k.why(c));
        k.bounds(kind, 0, 0);
        is("13 then the grain, KIND " + kind, must ? 5 : mustNot ? 6 : 0, k.why(c));
        int d = Kitchens.cooked(k, kind, 1000, must, 90f, 80f);
        is("13 else it is GOOD, KIND " + kind, 0, k.why(d));
        k.bounds(kind, 1, 900);
        is("13 by now", 3, k.why(d));
        for (int batch : new int[] {b, c, d}) {
            k.vouch(batch);
            is("13 vouched for", 0, k.why(batch));
        }
    }

    // ---- Promise 14

    private static void batchOf() {
        batchOfOthers();
        batchOfARawOne();
        firstTickOrMissing();
        whatWasPutStays();
    }

    /** "NONE for others." */
    private static void batchOfOthers() {
        EDGES.none("14 no such batch", Kitchens::busy, (k, v) -> k.batchOf(v, 0), -1, 12, 40);
        EDGES.none("14 what", Kitchens::busy, (k, v) -> k.batchOf(0, v), -1, 13, 14);
    }

    /** "(3 to 7 of one that isn't cooked: 0, 0, -1000001, 0, NONE.)" */
    private static void batchOfARawOne() {
        SugarKitchen k = Kitchens.busy();
        int[] want = {0, 0, -1000001, 0, NONE};
        for (int raw : RAW) {
            for (int what = 3; what <= 7; what++) {
                is("14 raw " + raw + ", " + what, want[what - 3], k.batchOf(raw, what));
            }
            for (int what = 8; what <= 12; what++) {
                is("14 raw " + raw + ", " + what, 0, k.batchOf(raw, what));
            }
        }
    }

    /** "the first tick at which it was GRAINED, or, of a DOUBTFUL one, which was not there" */
    private static void firstTickOrMissing() {
        SugarKitchen k = Kitchens.oneLot();
        k.grain(MIN, MAX);
        int b = Kitchens.raw(k, 2, 10, true, 90f, 80f, 70f);
        k.cook(b, 4);
        is("14 GRAINED and DOUBTFUL: which was not there", 3, k.batchOf(b, 7));
        is("14 GRAINED and DOUBTFUL: GRAINED", 1, k.batchOf(b, 6));
        int c = Kitchens.cooked(k, 2, 10, true, 90f, 80f, 70f);
        is("14 GRAINED alone: the first tick", 1, k.batchOf(c, 7));
        k.vouch(b);
        is("14 vouched for: it was not there still", 3, k.batchOf(b, 7));
        is("14 vouched for: GRAINED still", 1, k.batchOf(b, 6));
    }

    /** "what was put into it" stays whole when all of it is lost or cut. */
    private static void whatWasPutStays() {
        SugarKitchen k = Kitchens.oneLot();
        k.table(0, 900);
        k.row(k.batch(3), 0, 1);
        k.put(0, 0, 100);
        is("14 a tenth is left", 10, k.cook(0, 1));
        k.vouch(0);
        is("14 all is cut", 1, k.cut(0, 10, 1));
        int[] done = {3, 0, 100, 90, 900, 0, 0, NONE, 1, 0, 0, 10, 0};
        for (int what = 0; what < 13; what++) {
            is("14 all gone, " + what, done[what], k.batchOf(0, what));
        }
    }
}
