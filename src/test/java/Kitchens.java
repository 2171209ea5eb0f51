/** Kitchens to begin with. */
final class Kitchens {
    static final int NONE = SugarKitchen.NONE;
    static final int NO_TOP = -1000001;
    static final int MIN = Integer.MIN_VALUE;
    static final int MAX = Integer.MAX_VALUE;

    private Kitchens() {
    }

    static int bits(float f) {
        return Float.floatToRawIntBits(f);
    }

    /** A batch of a KIND with a MASS of lot 0 and a row of degrees, all of it stirred or not. */
    static int raw(SugarKitchen k, int kind, int mass, boolean stirred, float... degrees) {
        int b = k.batch(kind);
        k.put(b, 0, mass);
        k.row(b, 0, degrees.length);
        k.row(b, 1, degrees.length);
        for (int i = 0; i < degrees.length; i++) {
            k.tick(b, i, bits(degrees[i]));
            k.stir(b, i, stirred);
        }
        return b;
    }

    static int cooked(SugarKitchen k, int kind, int mass, boolean stirred, float... degrees) {
        int b = raw(k, kind, mass, stirred, degrees);
        k.cook(b, degrees.length);
        return b;
    }

    /** A batch without rows that is cooked and vouched for. */
    static int good(SugarKitchen k, int kind, int lot, int mass) {
        int b = k.batch(kind);
        k.put(b, lot, mass);
        k.cook(b, 1);
        k.vouch(b);
        return b;
    }

    /** By the TEMPER of a new object. */
    static void intoTemper(SugarKitchen k, int coat) {
        for (int degree : new int[] {450, 450, 270, 270, 310, 310}) {
            k.heat(coat, degree);
        }
    }

    /** One lot of 1000000. */
    static SugarKitchen oneLot() {
        SugarKitchen k = new SugarKitchen();
        k.lot(1000000, 0);
        return k;
    }

    /** Lots 0, 1, 2 with WARNINGS 1, 6, 12; batches: 0 a CENTRE, 1 a NUT, 2 a COAT in TEMPER. */
    static SugarKitchen kitchen() {
        SugarKitchen k = new SugarKitchen();
        k.lot(1000000, 1);
        k.lot(1000000, 6);
        k.lot(1000000, 12);
        good(k, 3, 0, 100000);
        good(k, 4, 1, 100000);
        good(k, 5, 2, 100000);
        intoTemper(k, 2);
        return k;
    }

    /** Pieces of these weights of the CENTRE, one a place, from TRAY 0, place 0 on. */
    static SugarKitchen laid(int... weights) {
        SugarKitchen k = kitchen();
        for (int i = 0; i < weights.length; i++) {
            k.cut(0, weights[i], 1);
            k.place(i, i / 24, i % 24);
        }
        return k;
    }

    /** So many pieces of one weight, the first of them on all the places there are. */
    static SugarKitchen laidAlike(int weight, int many) {
        SugarKitchen k = kitchen();
        for (int made = 0; made < many; made += 99) {
            k.cut(0, weight, Math.min(99, many - made));
        }
        for (int i = 0; i < many && i < 144; i++) {
            k.place(i, i / 24, i % 24);
        }
        return k;
    }

    /**
     * Something of everything. Lots: 3 has nothing left. Batches: 0 a CENTRE and 1 a NUT that are
     * GOOD; COATS: 2 in TEMPER, 3 GOOD in PHASE 1 with 1, 9 raw, 11 DOUBTFUL; raw: 4 a SYRUP and
     * 5 a FUDGE with rows, 7 a CENTRE with nothing; not GOOD: 6 a CLEAR that is GRAINED, 8 a NUT
     * that is not, 10 a DOUBTFUL SYRUP. Pieces: on TRAYS 0, 1, 2, 6; 7 in box 0; others loose.
     */
    static SugarKitchen busy() {
        SugarKitchen k = new SugarKitchen();
        k.lot(1000000, 1);
        k.lot(500000, 6);
        k.lot(70, 128);
        k.lot(0, 255);
        k.table(0, 50);
        k.table(500, 100);
        k.table(1000, 200);
        k.grain(600, 700);
        k.bounds(2, 10, 300);
        busyBatches(k);
        busyPieces(k);
        for (int from = 0; from < 6; from++) {
            for (int to = 0; to < 6; to++) {
                k.wash(from, to, 300 + 6 * from + to);
            }
        }
        k.queue(4);
        k.queue(1);
        k.queue(5);
        return k;
    }

    private static void busyBatches(SugarKitchen k) {
        cooked(k, 3, 9000, true, 110f, 65f, 20f);
        good(k, 4, 1, 8000);
        good(k, 5, 1, 7000);
        cooked(k, 5, 6000, false, 40f);
        raw(k, 0, 500, false, 10f, 55f, 105f, 60f, 5f);
        raw(k, 1, 600, true, 90f, 65f, 64f);
        cooked(k, 2, 100, true, 90f, 65f);
        k.batch(3);
        cooked(k, 4, 3000, false, 90f, 65f);
        k.put(k.batch(5), 2, 10);
        k.put(k.batch(0), 0, 700);
        k.cook(10, 5);
        k.put(k.batch(5), 0, 900);
        k.cook(11, 1);
        intoTemper(k, 2);
        intoTemper(k, 11);
        for (int degree : new int[] {450, 450, 270}) {
            k.heat(3, degree);
        }
    }

    private static void busyPieces(SugarKitchen k) {
        k.cut(0, 100, 6);
        k.cut(1, 250, 4);
        k.place(7, 0, 0);
        k.pack(2, 250, 0);
        k.place(0, 0, 0);
        k.place(1, 0, 1);
        k.place(2, 0, 2);
        k.place(6, 5, 23);
        k.dip(1, 2, 20);
        k.dip(2, 3, 30);
        k.dip(4, 2, 5);
        k.dip(6, 3, 40);
        k.allow(6);
    }

    static SugarKitchen fortyLots() {
        SugarKitchen k = new SugarKitchen();
        for (int i = 0; i < 40; i++) {
            k.lot(1000000, i);
        }
        return k;
    }

    static SugarKitchen fortyBatches() {
        SugarKitchen k = oneLot();
        for (int i = 0; i < 40; i++) {
            k.batch(i % 6);
        }
        return k;
    }

    static SugarKitchen sixteenRows() {
        SugarKitchen k = oneLot();
        for (int i = 0; i < 16; i++) {
            k.table(100 * i, 10 * i);
        }
        return k;
    }

    /** The 600 pieces weigh 10 each. */
    static SugarKitchen sixHundredPieces() {
        return laidAlike(10, 600);
    }

    /** All 144 places are taken by pieces 0 .. 143, which weigh 10 each; 144 is loose. */
    static SugarKitchen fullTrays() {
        return laidAlike(10, 145);
    }

    /** Pieces 0 .. 199 are in boxes of their own number; 200 and 201 lie on TRAY 0. */
    static SugarKitchen twoHundredBoxes() {
        SugarKitchen k = kitchen();
        for (int i = 0; i < 3; i++) {
            k.cut(0, 10, 99);
        }
        for (int i = 0; i < 200; i++) {
            k.place(i, 0, 0);
            k.pack(15, 10, 0);
        }
        k.place(200, 0, 0);
        k.place(201, 0, 1);
        return k;
    }

    /** Batches 0 .. 9 stand in the QUEUE, 10 and 11 do not. */
    static SugarKitchen tenInTheQueue() {
        SugarKitchen k = oneLot();
        for (int i = 0; i < 12; i++) {
            k.batch(i % 6);
        }
        for (int i = 0; i < 10; i++) {
            k.queue(i);
        }
        return k;
    }
}
