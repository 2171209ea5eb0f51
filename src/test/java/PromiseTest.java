/** Each promise of the document by itself: ordinary inputs, named edges, wrong inputs. */
public final class PromiseTest {
    private static final int NONE = SugarKitchen.NONE;
    private static final int NO_TOP = Kitchens.NO_TOP;
    private static final Due DUE = new Due("PromiseTest");

    public static void main(String[] args) {
        newObject();
        lot();
        batch();
        put();
        row();
        tick();
        stir();
        table();
        grain();
        bounds();
        cook();
        vouch();
        why();
        batchOf();
        temper();
        heat();
        cut();
        dip();
        place();
        take();
        allow();
        pieceOf();
        at();
        pack();
        packLiesFirst();
        would();
        wouldAndTwoHundredBoxes();
        boxOf();
        wash();
        queue();
        order();
        recall();
        about();
        left();
        DUE.end();
    }

    private static void is(String what, int want, int got) {
        DUE.is(what, want, got);
    }

    private static void is(String what, boolean want, boolean got) {
        DUE.is(what, want, got);
    }

    // ---- the promises

    private static void newObject() {
        SugarKitchen k = new SugarKitchen();
        for (int what = 0; what <= 6; what++) {
            is("1 about " + what, 0, k.about(what));
        }
        is("1 no lot", NONE, k.left(0));
        is("1 no batch", NONE, k.why(0));
        is("1 no piece", NONE, k.pieceOf(0, 0));
        is("1 no box", NONE, k.boxOf(0, 0));
        is("1 an empty QUEUE", 0, k.order(true, NONE));
        is("1 empty trays", NONE, k.at(0, 0));
        is("1 nothing to choose", 0, k.would(15, 1, 0, 4));
        SugarKitchen other = new SugarKitchen();
        other.lot(5, 0);
        is("1 objects share nothing", 0, k.about(0));
    }

    private static void lot() {
        SugarKitchen k = new SugarKitchen();
        is("2 too little", NONE, k.lot(-1, 0));
        is("2 too much", NONE, k.lot(1000001, 0));
        is("2 warnings below", NONE, k.lot(1, -1));
        is("2 warnings above", NONE, k.lot(1, 256));
        is("2 nothing made", 0, k.about(0));
        is("2 first", 0, k.lot(0, 0));
        is("2 second", 1, k.lot(1000000, 255));
        for (int i = 2; i < 40; i++) {
            is("2 one more", i, k.lot(i, i));
        }
        is("2 there are 40", NONE, k.lot(1, 1));
        is("2 still 40", 40, k.about(0));
        is("2 its amount", 1000000, k.left(1));
    }

    private static void batch() {
        SugarKitchen k = new SugarKitchen();
        is("3 below", NONE, k.batch(-1));
        is("3 above", NONE, k.batch(6));
        for (int i = 0; i < 40; i++) {
            is("3 number", i, k.batch(i % 6));
            is("3 kind", i % 6, k.batchOf(i, 0));
        }
        is("3 there are 40", NONE, k.batch(0));
        is("3 still 40", 40, k.about(1));
    }

    private static void put() {
        SugarKitchen k = new SugarKitchen();
        k.lot(100, 0);
        k.lot(50, 0);
        k.batch(0);
        is("4 some", 30, k.put(0, 0, 30));
        is("4 none", NONE, k.put(0, 0, 0));
        is("4 less than none", NONE, k.put(0, 0, -5));
        is("4 more than is left", NONE, k.put(0, 0, 71));
        is("4 nothing changed", 70, k.left(0));
        is("4 all that is left", 100, k.put(0, 0, 70));
        is("4 of another", 101, k.put(0, 1, 1));
        is("4 no such lot", NONE, k.put(0, 2, 1));
        is("4 no such batch", NONE, k.put(1, 1, 1));
        is("4 below", NONE, k.put(-1, -1, 1));
        k.cook(0, 1);
        is("4 cooked", NONE, k.put(0, 1, 1));
        is("4 nothing taken", 49, k.left(1));
    }

    private static void row() {
        SugarKitchen k = new SugarKitchen();
        k.lot(100, 0);
        k.batch(1);
        is("5 no such batch", false, k.row(1, 0, 5));
        is("5 no such row", false, k.row(0, 2, 5));
        is("5 no such row", false, k.row(0, -1, 5));
        is("5 too long", false, k.row(0, 0, 61));
        is("5 too short", false, k.row(0, 0, -2));
        is("5 missing at first", false, k.tick(0, 0, 0));
        is("5 of 60", true, k.row(0, 0, 60));
        is("5 the last", true, k.tick(0, 59, Kitchens.bits(50f)));
        is("5 not one more", false, k.tick(0, 60, 0));
        is("5 a false call changes nothing", false, k.row(0, 0, 61));
        is("5 it is there", true, k.tick(0, 59, Kitchens.bits(50f)));
        is("5 missing", true, k.row(0, 0, NONE));
        is("5 none there", false, k.tick(0, 0, 0));
        is("5 of none", true, k.row(0, 0, 0));
        is("5 none there", false, k.tick(0, 0, 0));
        is("5 stirring is another", false, k.stir(0, 0, true));
        is("5 stirring of 3", true, k.row(0, 1, 3));
        is("5 stirring's last", true, k.stir(0, 2, true));
        is("5 not one more", false, k.stir(0, 3, true));
        k.row(0, 0, 3);
        k.tick(0, 0, Kitchens.bits(90f));
        k.tick(0, 2, Kitchens.bits(80f));
        k.row(0, 0, 3);
        k.tick(0, 1, Kitchens.bits(-5f));
        k.row(0, 1, 3);
        k.put(0, 0, 10);
        k.grain(-10000, 10000);
        is("5 cooked", 10, k.cook(0, 3));
        is("5 all 0 anew", 0, k.batchOf(0, 5));
        is("5 all no anew", 0, k.batchOf(0, 6));
        is("5 cooked already", false, k.row(0, 0, 3));
        is("5 cooked already", false, k.row(0, 1, NONE));
    }

    private static int topOf(int... floats) {
        SugarKitchen k = new SugarKitchen();
        k.lot(10, 0);
        k.batch(0);
        k.put(0, 0, 10);
        k.row(0, 0, floats.length);
        for (int i = 0; i < floats.length; i++) {
            k.tick(0, i, floats[i]);
        }
        k.cook(0, floats.length);
        return k.batchOf(0, 5);
    }

    private static void tick() {
        SugarKitchen k = new SugarKitchen();
        k.lot(10, 0);
        k.batch(0);
        k.put(0, 0, 10);
        k.row(0, 0, 2);
        is("6 below", false, k.tick(0, -1, 0));
        is("6 above", false, k.tick(0, 2, 0));
        is("6 no such batch", false, k.tick(1, 0, 0));
        is("6 there", true, k.tick(0, 1, Kitchens.bits(7f)));
        is("6 again", true, k.tick(0, 1, Kitchens.bits(6f)));
        k.cook(0, 2);
        is("6 the last told", 60, k.batchOf(0, 5));
        is("6 cooked", false, k.tick(0, 0, 0));
        for (float f : new float[] {0f, -0f, 0.09f, 0.1f, 0.0999999f, 99.95f, 99.94999f, 117.77f,
            1e-40f, 1e-30f, 2.1474836e8f, 2.1474837e8f, 2.147483e8f, 2e9f, 3e9f, 3.4e38f, -0.19f,
            -99.95f, -3e9f, 16777215f, 1677721.6f, 838860.75f, 0.3f, 1.1f, 4.35f}) {
            is("6 tenfold " + f, (int) (10f * f), topOf(Kitchens.bits(f)));
        }
        for (int i = 0, b = 0x3a000000; i < 5000; i++, b += 0x8517) {
            is("6 bits " + b, (int) (10f * Float.intBitsToFloat(b)), topOf(b));
            int minus = b | 0x80000000;
            is("6 bits " + minus, (int) (10f * Float.intBitsToFloat(minus)), topOf(minus));
        }
        is("6 infinite", Integer.MAX_VALUE, topOf(0x7f800000));
        is("6 minus infinite", Integer.MIN_VALUE, topOf(0xff800000));
        is("6 no number", NO_TOP, topOf(0x7f800001));
        is("6 no number", NO_TOP, topOf(0xffffffff));
        is("6 no number", NO_TOP, topOf(0x7fc00000));
    }

    private static void stir() {
        SugarKitchen k = new SugarKitchen();
        k.lot(100, 0);
        k.grain(0, 1000);
        int b = Kitchens.raw(k, 1, 10, false, 90f, 80f);
        is("7 below", false, k.stir(b, -1, true));
        is("7 above", false, k.stir(b, 2, true));
        is("7 no such batch", false, k.stir(b + 1, 0, true));
        is("7 yes", true, k.stir(b, 1, true));
        is("7 no", true, k.stir(b, 1, false));
        k.cook(b, 2);
        is("7 no it was", 0, k.batchOf(b, 6));
        is("7 cooked", false, k.stir(b, 1, true));
        int other = Kitchens.raw(k, 1, 10, false, 90f, 80f);
        k.stir(other, 1, true);
        k.cook(other, 2);
        is("7 yes it was", 1, k.batchOf(other, 6));
    }

    private static int lossAt(SugarKitchen k, float degree) {
        int b = Kitchens.raw(k, 0, 1000, false, degree);
        k.cook(b, 1);
        return k.batchOf(b, 4);
    }

    private static void table() {
        SugarKitchen k = new SugarKitchen();
        k.lot(1000000, 0);
        is("8 an empty one", 0, lossAt(k, 500f));
        is("8 loss below", NONE, k.table(10, -1));
        is("8 loss above", NONE, k.table(10, 901));
        is("8 none there", 0, k.about(4));
        is("8 first", 1, k.table(-20, 900));
        is("8 not below", NONE, k.table(-21, 5));
        is("8 not like", NONE, k.table(-20, 5));
        is("8 second", 2, k.table(1000, 0));
        is("8 third", 3, k.table(1100, 200));
        is("8 below all", 0, lossAt(k, -2.1f));
        is("8 at the first", 900, lossAt(k, -2f));
        is("8 below the second", 900, lossAt(k, 99.9f));
        is("8 at the second", 0, lossAt(k, 100f));
        is("8 below the third", 0, lossAt(k, 109.9f));
        is("8 at the third", 200, lossAt(k, 110f));
        is("8 above all", 200, lossAt(k, 3e30f));
        for (int i = 4; i <= 16; i++) {
            is("8 more", i, k.table(1100 + i, 0));
        }
        is("8 there are 16", NONE, k.table(5000, 0));
        is("8 still 16", 16, k.about(4));
        SugarKitchen other = new SugarKitchen();
        is("8 any degree", 1, other.table(Integer.MIN_VALUE, 0));
        is("8 any degree", 2, other.table(Integer.MAX_VALUE, 0));
        is("8 none is above", NONE, other.table(Integer.MAX_VALUE, 0));
    }

    private static int grainedAt(SugarKitchen k, boolean stirred, float... degrees) {
        int b = Kitchens.raw(k, 1, 10, stirred, degrees);
        k.cook(b, degrees.length);
        return k.batchOf(b, 7);
    }

    private static void grain() {
        SugarKitchen k = new SugarKitchen();
        k.lot(100000, 0);
        is("9 at first never", NONE, grainedAt(k, true, 90f, 0f, -0.1f));
        is("9 told", true, k.grain(600, 700));
        is("9 the lower", 1, grainedAt(k, true, 90f, 60f));
        is("9 the upper", 1, grainedAt(k, true, 90f, 70f));
        is("9 below", NONE, grainedAt(k, true, 90f, 59.9f));
        is("9 above", NONE, grainedAt(k, true, 90f, 70.1f));
        is("9 not stirred", NONE, grainedAt(k, false, 90f, 65f));
        is("9 ahead of TOP", NONE, grainedAt(k, true, 65f, 90f));
        is("9 at TOP", NONE, grainedAt(k, true, 65f));
        is("9 behind the first at TOP", 1, grainedAt(k, true, 65f, 65f));
        is("9 the first one", 2, grainedAt(k, true, 90f, 80f, 66f, 65f));
        is("9 no number", 2, grainedAt(k, true, 90f, Float.NaN, 65f));
        is("9 no TOP", NONE, grainedAt(k, true, Float.NaN, Float.NaN));
        is("9 turned round", true, k.grain(700, 600));
        is("9 none is within", NONE, grainedAt(k, true, 90f, 65f));
        is("9 any", true, k.grain(Integer.MIN_VALUE, Integer.MAX_VALUE));
        is("9 all are within", 1, grainedAt(k, true, 90f, -3e38f));
        int b = Kitchens.raw(k, 1, 10, true, 90f, 65f, 65f);
        k.row(b, 1, 1);
        k.stir(b, 0, true);
        k.cook(b, 3);
        is("9 stirring isn't there", 0, k.batchOf(b, 6));
        int c = Kitchens.raw(k, 1, 10, true, 90f, 65f);
        k.cook(c, 1);
        is("9 only ticks that were cooked", 0, k.batchOf(c, 6));
    }

    private static void bounds() {
        SugarKitchen k = new SugarKitchen();
        k.lot(100000, 0);
        k.table(0, 900);
        int b = Kitchens.raw(k, 0, 1000, false, 1f);
        int c = Kitchens.raw(k, 5, 1000, false, 1f);
        k.cook(b, 1);
        k.cook(c, 1);
        is("10 at first to 900", 0, k.why(b));
        is("10 below", false, k.bounds(-1, 0, 0));
        is("10 above", false, k.bounds(6, 0, 0));
        is("10 any", true, k.bounds(0, Integer.MIN_VALUE, 899));
        is("10 too high", 4, k.why(b));
        is("10 of that KIND alone", 0, k.why(c));
        is("10 the upper one", true, k.bounds(0, 0, 900));
        is("10 good", 0, k.why(b));
        is("10 the lower one", true, k.bounds(0, 900, Integer.MAX_VALUE));
        is("10 good", 0, k.why(b));
        is("10 any", true, k.bounds(0, 901, 0));
        is("10 too low comes first", 3, k.why(b));
    }

    private static void cook() {
        SugarKitchen k = new SugarKitchen();
        for (int i = 0; i < 40; i++) {
            k.lot(1000000, 0);
        }
        k.table(1000, 333);
        int b = Kitchens.raw(k, 0, 1000, false, 99f, 100f, 50f);
        is("11 no such batch", NONE, k.cook(b + 1, 1));
        is("11 no ticks", NONE, k.cook(b, 0));
        is("11 too many ticks", NONE, k.cook(b, 61));
        is("11 not cooked", 1, k.why(b));
        is("11 cooked", 667, k.cook(b, 3));
        is("11 again", NONE, k.cook(b, 3));
        int little = Kitchens.raw(k, 0, 3, false, 100f);
        is("11 cut", 3, k.cook(little, 1));
        int empty = k.batch(0);
        is("11 no MASS", NONE, k.cook(empty, 1));
        is("11 not cooked", 1, k.why(empty));
        int part = Kitchens.raw(k, 0, 1000, false, 99f, 100f);
        is("11 ticks not told are not cooked", 1000, k.cook(part, 1));
        int doubtful = Kitchens.raw(k, 0, 1000, false, 99f, 100f);
        is("11 what is there is cooked", 667, k.cook(doubtful, 60));
        is("11 and it is DOUBTFUL", 2, k.why(doubtful));
        int numbers = Kitchens.raw(k, 0, 1000, false, Float.NaN, 100f, Float.NaN);
        is("11 no number is not read", 667, k.cook(numbers, 3));
        is("11 nor DOUBTFUL", 0, k.why(numbers));
        int much = k.batch(0);
        for (int i = 1; i < 40; i++) {
            k.put(much, i, 1000000);
        }
        k.row(much, 0, 1);
        k.tick(much, 0, Kitchens.bits(100f));
        is("11 much", 39000000 - 12987000, k.cook(much, 1));
        is("11 much lost", 12987000, k.batchOf(much, 3));
        int later = Kitchens.raw(k, 0, 1000, false, 100f);
        k.table(1000 + 1, 500);
        is("11 by the TABLE of now", 667, k.cook(later, 1));
    }

    private static void vouch() {
        SugarKitchen k = new SugarKitchen();
        k.lot(100, 0);
        k.batch(1);
        k.put(0, 0, 10);
        is("12 not cooked", false, k.vouch(0));
        is("12 not", 0, k.batchOf(0, 8));
        is("12 no such batch", false, k.vouch(1));
        is("12 no such batch", false, k.vouch(-1));
        k.cook(0, 1);
        is("12 DOUBTFUL", 2, k.why(0));
        is("12 cooked", true, k.vouch(0));
        is("12 vouched for", 1, k.batchOf(0, 8));
        is("12 GOOD", 0, k.why(0));
        is("12 again", true, k.vouch(0));
    }

    private static void why() {
        SugarKitchen k = new SugarKitchen();
        k.lot(100000, 0);
        k.grain(0, 800);
        is("13 no such batch", NONE, k.why(0));
        int[] wantPlain = {0, 5, 0, 5, 5, 0};
        int[] wantGrained = {0, 0, 6, 0, 0, 0};
        for (int kind = 0; kind < 6; kind++) {
            int b = Kitchens.raw(k, kind, 10, false, 90f, 80f);
            is("13 not cooked", 1, k.why(b));
            k.cook(b, 2);
            is("13 not GRAINED, kind " + kind, wantPlain[kind], k.why(b));
            int g = Kitchens.raw(k, kind, 10, true, 90f, 80f);
            k.cook(g, 2);
            is("13 GRAINED, kind " + kind, wantGrained[kind], k.why(g));
            int d = Kitchens.raw(k, kind, 10, true, 90f, 80f);
            k.cook(d, 3);
            is("13 DOUBTFUL, kind " + kind, 2, k.why(d));
            k.bounds(kind, 1, 5);
            is("13 DOUBTFUL comes first", 2, k.why(d));
            is("13 too low comes ahead of GRAINED", 3, k.why(g));
            k.bounds(kind, -5, -1);
            is("13 too high comes ahead of GRAINED", 4, k.why(g));
            is("13 too high comes ahead of not GRAINED", 4, k.why(b));
            k.vouch(b);
            is("13 vouched for", 0, k.why(b));
        }
    }

    private static void batchOf() {
        SugarKitchen k = new SugarKitchen();
        k.lot(100000, 0);
        k.table(0, 100);
        k.grain(700, 900);
        int b = Kitchens.raw(k, 3, 1000, true, 90f, 80f, 95f, 60f, 75f, 74f);
        int[] raw = {3, 1000, 1000, 0, 0, NO_TOP, 0, NONE, 0, 0, 0, 0, 0};
        for (int i = 0; i < raw.length; i++) {
            is("14 of a raw one " + i, raw[i], k.batchOf(b, i));
        }
        k.cook(b, 6);
        k.vouch(b);
        k.cut(b, 100, 3);
        int[] done = {3, 600, 1000, 100, 100, 950, 1, 4, 1, 0, 0, 300, 0};
        for (int i = 0; i < done.length; i++) {
            is("14 of a cooked one " + i, done[i], k.batchOf(b, i));
        }
        is("14 below", NONE, k.batchOf(b, -1));
        is("14 above", NONE, k.batchOf(b, 13));
        is("14 no such batch", NONE, k.batchOf(b + 1, 0));
        int coat = Kitchens.raw(k, 5, 1000, false, Float.NaN);
        k.cook(coat, 2);
        k.vouch(coat);
        Kitchens.intoTemper(k, coat);
        k.dip(0, coat, 30);
        k.dip(1, coat, 20);
        int[] dipping = {5, 950, 1000, 0, 0, NO_TOP, 0, 1, 1, 3, 0, 0, 50};
        for (int i = 0; i < dipping.length; i++) {
            is("14 of a COAT " + i, dipping[i], k.batchOf(coat, i));
        }
        int both = Kitchens.raw(k, 1, 10, true, 90f, 80f);
        k.cook(both, 5);
        is("14 GRAINED", 1, k.batchOf(both, 6));
        is("14 which was not there", 2, k.batchOf(both, 7));
        int missing = Kitchens.raw(k, 1, 10, true, 90f);
        k.row(missing, 0, NONE);
        k.cook(missing, 5);
        is("14 a MISSING row", 0, k.batchOf(missing, 7));
        is("14 no TOP, no LOSS", 0, k.batchOf(missing, 4));
        k.grain(0, 0);
        is("14 GRAINED by the GRAIN of its time", 1, k.batchOf(both, 6));
        k.table(5, 500);
        is("14 LOSS by the TABLE of its time", 100, k.batchOf(b, 4));
    }

    private static void temper() {
        SugarKitchen k = Kitchens.kitchen();
        is("15 in TEMPER", 3, k.batchOf(2, 9));
        is("15 D2 not below D3", false, k.temper(450, 310, 310, 320, 290, 2));
        is("15 D3 above D4", false, k.temper(450, 270, 321, 320, 290, 2));
        is("15 D4 not below D1", false, k.temper(320, 270, 310, 320, 290, 2));
        is("15 D5 above D3", false, k.temper(450, 270, 310, 320, 311, 2));
        is("15 N below", false, k.temper(450, 270, 310, 320, 290, 0));
        is("15 N above", false, k.temper(450, 270, 310, 320, 290, 21));
        is("15 nothing changed", 3, k.batchOf(2, 9));
        is("15 the same TEMPER", true, k.temper(450, 270, 310, 320, 290, 2));
        is("15 is no other one", 3, k.batchOf(2, 9));
        int[] same = {450, 270, 310, 320, 290, 2};
        for (int i = 0; i < 6; i++) {
            int[] d = same.clone();
            d[i]++;
            is("15 another one", true, k.temper(d[0], d[1], d[2], d[3], d[4], d[5]));
            is("15 another in " + i + ": PHASE 0", 0, k.batchOf(2, 9));
            k.temper(450, 270, 310, 320, 290, 2);
            Kitchens.intoTemper(k, 2);
            is("15 in TEMPER anew", 3, k.batchOf(2, 9));
        }
        k.heat(2, 450);
        is("15 a count", 1, k.batchOf(2, 10));
        is("15 another one", true, k.temper(449, 270, 310, 320, 290, 2));
        is("15 count 0", 0, k.batchOf(2, 10));
        is("15 edges", true, k.temper(321, 309, 310, 310, 310, 20));
        is("15 PHASE 0", 0, k.batchOf(2, 9));
        is("15 D3 as D4", true, k.temper(311, 309, 310, 310, 310, 1));
        is("15 D1 just above", 1, k.heat(2, 311));
        is("15 D2 just below", 2, k.heat(2, 309));
        is("15 D3", 3, k.heat(2, 310));
        is("15 D5", 3, k.heat(2, 310));
        is("15 any degrees", true, k.temper(Integer.MAX_VALUE, Integer.MIN_VALUE, -1, 0,
                Integer.MIN_VALUE, 20));
        is("15 count 0", 0, k.batchOf(2, 10));
        for (int i = 1; i < 20; i++) {
            is("15 N ticks", 0, k.heat(2, Integer.MAX_VALUE));
        }
        is("15 the 20th", 1, k.heat(2, Integer.MAX_VALUE));
    }

    private static void heatAll(SugarKitchen k, String what, int[]... rows) {
        for (int[] row : rows) {
            is("16 " + what + ": PHASE at " + row[0], row[1], k.heat(2, row[0]));
            is("16 " + what + ": count at " + row[0], row[2], k.batchOf(2, 10));
        }
    }

    private static void heat() {
        SugarKitchen k = Kitchens.kitchen();
        heatAll(k, "as at first", new int[][] {{321, 0, 0}});
        heatAsTold(k);
        k.temper(451, 271, 311, 321, 291, 3);
        k.temper(450, 270, 310, 320, 290, 2);
        heatAsTold(k);
        k.temper(450, 270, 310, 320, 290, 1);
        heatAll(k, "N is 1", new int[][] {{450, 1, 0}, {270, 2, 0}, {450, 1, 0}, {270, 2, 0},
            {310, 3, 0}, {450, 1, 0}});
        is("16 no COAT", NONE, k.heat(0, 450));
        is("16 no such batch", NONE, k.heat(3, 450));
        is("16 no such batch", NONE, k.heat(-1, 450));
        int raw = k.batch(5);
        k.put(raw, 0, 10);
        is("16 not cooked", NONE, k.heat(raw, 450));
        k.cook(raw, 1);
        is("16 cooked, not GOOD", 1, k.heat(raw, 450));
    }

    /** By the TEMPER of a new object, or the same one told, from PHASE 0 on. */
    private static void heatAsTold(SugarKitchen k) {
        heatAll(k, "up", new int[][] {{449, 0, 0}, {450, 0, 1}, {449, 0, 0}, {451, 0, 1},
            {9999, 1, 0}});
        heatAll(k, "down", new int[][] {{270, 1, 1}, {271, 1, 0}, {600, 1, 0}, {270, 1, 1},
            {-9999, 2, 0}});
        heatAll(k, "up again", new int[][] {{310, 2, 1}, {309, 2, 0}, {200, 2, 0}, {320, 2, 1},
            {310, 3, 0}});
        heatAll(k, "in TEMPER", new int[][] {{320, 3, 0}, {290, 3, 0}, {289, 0, 0}});
        Kitchens.intoTemper(k, 2);
        heatAll(k, "too hot", new int[][] {{321, 0, 0}});
        Kitchens.intoTemper(k, 2);
        heatAll(k, "far too hot counts", new int[][] {{450, 0, 1}, {450, 1, 0}});
        heatAll(k, "in PHASE 2", new int[][] {{1, 1, 1}, {1, 2, 0}, {310, 2, 1}, {321, 0, 0}});
        heatAll(k, "in PHASE 2 counts", new int[][] {{450, 0, 1}, {450, 1, 0}, {1, 1, 1},
            {1, 2, 0}, {310, 2, 1}, {450, 0, 1}});
    }

    private static void cut() {
        SugarKitchen k = Kitchens.kitchen();
        is("17 too light", NONE, k.cut(0, 9, 1));
        is("17 too heavy", NONE, k.cut(0, 2001, 1));
        is("17 none", NONE, k.cut(0, 10, 0));
        is("17 too many", NONE, k.cut(0, 10, 100));
        is("17 a COAT", NONE, k.cut(2, 10, 1));
        is("17 no such batch", NONE, k.cut(3, 10, 1));
        is("17 of a CENTRE", 99, k.cut(0, 10, 99));
        is("17 of a NUT", 2, k.cut(1, 2000, 2));
        is("17 loose", 0, k.pieceOf(100, 5));
        is("17 its MASS", 99010, k.batchOf(0, 1));
        for (int kind : new int[] {0, 1, 2}) {
            is("17 not cut", NONE, k.cut(Kitchens.good(k, kind, 0, 100), 10, 1));
        }
        int small = Kitchens.good(k, 3, 0, 35);
        is("17 as far as MASS goes", 3, k.cut(small, 10, 9));
        is("17 no more", 0, k.cut(small, 10, 9));
        is("17 what is left", 5, k.batchOf(small, 1));
        int raw = k.batch(3);
        k.put(raw, 0, 1000);
        is("17 not cooked", NONE, k.cut(raw, 10, 1));
        k.cook(raw, 1);
        is("17 not GOOD", NONE, k.cut(raw, 10, 1));
        k.vouch(raw);
        is("17 vouched for", 1, k.cut(raw, 10, 1));
        is("17 pieces", 105, k.about(2));
        for (int i = 0; i < 5; i++) {
            is("17 many more", 99, k.cut(0, 10, 99));
        }
        is("17 no numbers left", 0, k.cut(0, 10, 99));
        is("17 all 600", 600, k.about(2));
        is("17 the last one", 0, k.pieceOf(599, 0));
        SugarKitchen other = Kitchens.kitchen();
        for (int i = 0; i < 6; i++) {
            other.cut(0, 10, 99);
        }
        is("17 as far as numbers go", 6, other.cut(0, 10, 99));
    }

    private static void dip() {
        SugarKitchen k = Kitchens.laid(100, 100, 100, 100, 100);
        is("18 no weight", NONE, k.dip(0, 2, 0));
        is("18 too much", NONE, k.dip(0, 2, 1001));
        is("18 no such piece", NONE, k.dip(5, 2, 10));
        is("18 no such COAT", NONE, k.dip(0, 3, 10));
        is("18 no COAT", NONE, k.dip(0, 1, 10));
        is("18 nothing changed", NONE, k.pieceOf(0, 2));
        is("18 nothing taken", 0, k.batchOf(2, 12));
        is("18 in TEMPER", 1, k.dip(0, 2, 1000));
        is("18 weight", 1100, k.pieceOf(0, 1));
        is("18 twice", NONE, k.dip(0, 2, 1));
        is("18 on its TRAY still", 0, k.at(0, 0));
        k.heat(2, 100);
        is("18 not in TEMPER", 0, k.dip(1, 2, 1));
        k.pack(4, 1000, 500);
        is("18 in a box", 2, k.pieceOf(0, 5));
        k.pack(1, 100, 0);
        is("18 undipped in a box", NONE, k.dip(2, 2, 5));
        int small = Kitchens.good(k, 5, 0, 20);
        is("18 more than it has", NONE, k.dip(3, small, 21));
        is("18 all it has", 0, k.dip(3, small, 20));
        int bad = k.batch(5);
        k.put(bad, 0, 100);
        is("18 not cooked", NONE, k.dip(4, bad, 10));
        k.cook(bad, 1);
        is("18 not GOOD", NONE, k.dip(4, bad, 10));
        Kitchens.intoTemper(k, bad);
        is("18 not GOOD, in TEMPER", NONE, k.dip(4, bad, 10));
        k.vouch(bad);
        is("18 vouched for", 1, k.dip(4, bad, 10));
    }

    private static void place() {
        SugarKitchen k = Kitchens.kitchen();
        k.cut(0, 100, 3);
        is("19 no such tray", false, k.place(0, 6, 0));
        is("19 no such tray", false, k.place(0, -1, 0));
        is("19 no such place", false, k.place(0, 0, 24));
        is("19 no such place", false, k.place(0, 0, -1));
        is("19 no such piece", false, k.place(3, 0, 0));
        is("19 the last place", true, k.place(0, 5, 23));
        is("19 not empty", false, k.place(1, 5, 23));
        is("19 its own place is not empty", false, k.place(0, 5, 23));
        is("19 goes on", true, k.place(0, 4, 0));
        is("19 left the other", NONE, k.at(5, 23));
        is("19 there", 0, k.at(4, 0));
        is("19 now empty", true, k.place(1, 5, 23));
        k.pack(1, 100, 0);
        is("19 in a box", false, k.place(0, 0, 0));
    }

    private static void take() {
        SugarKitchen k = Kitchens.laid(100, 100);
        is("20 on a TRAY", true, k.take(0));
        is("20 loose", false, k.take(0));
        is("20 its place is empty", NONE, k.at(0, 0));
        is("20 no place", NONE, k.pieceOf(0, 6));
        is("20 no such piece", false, k.take(2));
        is("20 no such piece", false, k.take(-1));
        k.pack(1, 100, 0);
        is("20 in a box", false, k.take(1));
    }

    private static void allow() {
        SugarKitchen k = Kitchens.laid(100, 100, 100);
        k.dip(0, 2, 10);
        k.heat(2, 0);
        k.dip(1, 2, 10);
        is("21 dipped in TEMPER", false, k.allow(0));
        is("21 not dipped", false, k.allow(2));
        is("21 no such piece", false, k.allow(3));
        is("21 not FIT", 0, k.pieceOf(1, 8));
        is("21 dipped, not in TEMPER", true, k.allow(1));
        is("21 FIT", 1, k.pieceOf(1, 8));
        is("21 again", true, k.allow(1));
        is("21 ALLOWED", 1, k.pieceOf(1, 4));
        is("21 not ALLOWED", 0, k.pieceOf(0, 4));
    }

    private static void pieceOf() {
        SugarKitchen k = Kitchens.kitchen();
        k.cut(0, 100, 3);
        k.cut(1, 200, 1);
        k.dip(3, 2, 7);
        k.place(3, 2, 5);
        k.place(1, 0, 3);
        k.pack(1, 100, 0);
        k.heat(2, 0);
        k.dip(2, 2, 8);
        k.place(2, 0, 0);
        int[][] want = {{0, 100, NONE, NONE, 0, 0, NONE, 0, 0}, {0, 100, NONE, NONE, 0, 2, 0, 0, 0},
            {0, 108, 2, 0, 0, 1, 0, 2, 0}, {1, 207, 2, 1, 0, 1, 53, 3, 1}};
        for (int piece = 0; piece < 4; piece++) {
            for (int what = 0; what < 9; what++) {
                is("22 " + piece + ": " + what, want[piece][what], k.pieceOf(piece, what));
            }
        }
        is("22 below", NONE, k.pieceOf(0, -1));
        is("22 above", NONE, k.pieceOf(0, 9));
        is("22 no such piece", NONE, k.pieceOf(4, 0));
        is("22 no such piece", NONE, k.pieceOf(-1, 0));
    }

    private static void at() {
        SugarKitchen k = Kitchens.laid(100, 100);
        is("23 there", 1, k.at(0, 1));
        is("23 empty", NONE, k.at(0, 2));
        is("23 no such place", NONE, k.at(0, 24));
        is("23 no such place", NONE, k.at(1, -23));
        is("23 no such tray", NONE, k.at(6, 0));
        is("23 no such tray", NONE, k.at(-1, 24));
    }

    private static void pack() {
        SugarKitchen k = Kitchens.laid(100, 70, 50, 40);
        is("24 sorts below", NONE, k.pack(0, 100, 0));
        is("24 sorts above", NONE, k.pack(16, 100, 0));
        is("24 weight below", NONE, k.pack(15, 0, 500));
        is("24 weight above", NONE, k.pack(15, 8001, 0));
        is("24 over below", NONE, k.pack(15, 100, -1));
        is("24 over above", NONE, k.pack(15, 100, 501));
        is("24 other SORTS", NONE, k.pack(14, 100, 500));
        is("24 too heavy", NONE, k.pack(15, 261, 500));
        is("24 none within", NONE, k.pack(15, 191, 0));
        is("24 nothing changed", 4, k.about(6));
        is("24 least over", 0, k.pack(15, 75, 500));
        is("24 90 is the least", 90, k.boxOf(0, 1));
        is("24 gone from the tray", NONE, k.at(0, 2));
        is("24 next", 1, k.pack(15, 75, 500));
        is("24 100 is the least", 100, k.boxOf(1, 1));
        is("24 its WEIGHT", 75, k.boxOf(1, 2));
        is("24 none can be", NONE, k.pack(15, 75, 500));
        SugarKitchen heavy = Kitchens.kitchen();
        heavy.cut(0, 2000, 5);
        for (int i = 0; i < 5; i++) {
            heavy.place(i, i, i);
        }
        heavy.dip(4, 2, 500);
        is("24 the greatest", 0, heavy.pack(15, 8000, 500));
        is("24 exactly", 8000, heavy.boxOf(0, 1));
        for (int i = 0; i < 4; i++) {
            heavy.cut(0, 2000, 1);
            heavy.place(5 + i, 0, i);
        }
        heavy.take(8);
        is("24 up to OVER", 1, heavy.pack(15, 8000, 500));
        is("24 500 over", 8500, heavy.boxOf(1, 1));
        packSorts();
        packWithinForty();
    }

    private static void packSorts() {
        SugarKitchen k = Kitchens.kitchen();
        k.cut(0, 100, 2);
        k.cut(1, 100, 2);
        for (int i = 0; i < 4; i++) {
            k.place(i, 0, i);
        }
        k.dip(1, 2, 10);
        k.dip(3, 2, 10);
        int[] pieceOfSort = {0, 2, 1, 3};
        for (int sort = 0; sort < 4; sort++) {
            is("24 of SORT " + sort, sort, k.pack(1 << sort, 100, 10));
            is("24 is of SORT " + sort, pieceOfSort[sort], k.boxOf(sort, 100));
        }
    }

    /** The 41st piece is not in the CHOICE until one of the first 40 is packed. */
    private static void packWithinForty() {
        SugarKitchen k = Kitchens.kitchen();
        k.cut(0, 100, 40);
        k.cut(0, 55, 1);
        for (int i = 0; i < 41; i++) {
            k.place(i, i / 24, i % 24);
        }
        is("24 40 at most", 40, k.would(15, 55, 0, 4));
        is("24 not the 41st", NONE, k.pack(15, 55, 0));
        is("24 of the first 40", 0, k.pack(15, 100, 0));
        is("24 now the 41st", 1, k.pack(15, 55, 0));
        is("24 it is that", 40, k.boxOf(1, 100));
    }

    private static void packLiesFirst() {
        SugarKitchen k = Kitchens.laid(30, 50, 20, 40, 10, 60);
        is("24 of like sums", 0, k.pack(15, 70, 0));
        is("24 the first has the first piece", 0, k.boxOf(0, 100));
        is("24 and the next that may come", 3, k.boxOf(0, 101));
        is("24 two pieces", 2, k.boxOf(0, 0));
        SugarKitchen m = Kitchens.laid(30, 30, 10, 40);
        m.pack(15, 70, 0);
        is("24 30 30 10", 3, m.boxOf(0, 0));
        SugarKitchen back = Kitchens.kitchen();
        back.cut(0, 100, 3);
        back.place(0, 5, 23);
        back.place(1, 2, 3);
        back.place(2, 2, 4);
        back.pack(15, 100, 0);
        is("24 by TRAY and place, not by number", 1, back.boxOf(0, 100));
    }

    private static void would() {
        SugarKitchen k = Kitchens.laid(100, 70, 50, 40);
        int[] want = {15, 2, 2, 2, 4};
        for (int what = 0; what < 5; what++) {
            is("25 what " + what, want[what], k.would(15, 75, 500, what));
        }
        is("25 nothing packed", 4, k.about(6));
        is("25 below", NONE, k.would(15, 75, 500, -1));
        is("25 above", NONE, k.would(15, 75, 500, 5));
        for (int what = 0; what < 5; what++) {
            is("25 sorts below", NONE, k.would(0, 75, 500, what));
            is("25 sorts above", NONE, k.would(16, 75, 500, what));
            is("25 weight below", NONE, k.would(15, 0, 500, what));
            is("25 weight above", NONE, k.would(15, 8001, 500, what));
            is("25 over below", NONE, k.would(15, 75, -1, what));
            is("25 over above", NONE, k.would(15, 75, 501, what));
        }
        int[] wantNone = {NONE, NONE, 0, 0, 4};
        for (int what = 0; what < 5; what++) {
            is("25 none can be " + what, wantNone[what], k.would(15, 261, 500, what));
        }
        SugarKitchen m = Kitchens.laid(60, 50, 50, 40, 30, 30, 20, 20);
        is("25 FULL by least over", 3, m.would(15, 100, 0, 2));
        SugarKitchen greedy = Kitchens.laid(60, 60, 40, 40, 20, 20);
        is("25 MOST", 2, greedy.would(15, 100, 20, 3));
        SugarKitchen apart = Kitchens.laid(90, 20, 20, 20, 30, 40);
        is("25 FULL takes 90 and 20, then 110", 2, apart.would(15, 110, 10, 2));
        SugarKitchen trap = Kitchens.laid(60, 50, 30, 40, 70);
        is("25 FULL", 2, trap.would(15, 90, 40, 2));
        is("25 MOST", 2, trap.would(15, 90, 40, 3));
        SugarKitchen better = Kitchens.laid(50, 30, 20, 90, 80, 60);
        is("25 FULL: 50 30 20 leaves 90 80 60", 2, better.would(15, 100, 50, 2));
        is("25 MOST is more", 3, better.would(15, 100, 50, 3));
        SugarKitchen fifteen = Kitchens.kitchen();
        fifteen.cut(0, 100, 15);
        for (int i = 0; i < 15; i++) {
            fifteen.place(i, 0, i);
        }
        is("25 FULL of all", 15, fifteen.would(15, 100, 0, 2));
        is("25 MOST of the first 14", 14, fifteen.would(15, 100, 0, 3));
        SugarKitchen many = Kitchens.kitchen();
        many.cut(0, 10, 99);
        many.cut(0, 10, 45);
        for (int i = 0; i < 144; i++) {
            many.place(i, i / 24, i % 24);
        }
        is("25 FULL of all trays", 144, many.would(15, 10, 0, 2));
        is("25 to choose from", 40, many.would(15, 10, 0, 4));
        is("25 FULL in threes", 48, many.would(15, 30, 500, 2));
        is("25 nothing packed", 0, many.about(3));
        is("25 all lie there", 144, many.about(6));
    }

    private static void wouldAndTwoHundredBoxes() {
        SugarKitchen k = Kitchens.kitchen();
        for (int i = 0; i < 3; i++) {
            k.cut(0, 10, 99);
        }
        int piece = 0;
        for (int i = 0; i < 200; i++) {
            k.place(piece, 0, 0);
            is("24 box " + i, i, k.pack(15, 10, 0));
            piece++;
        }
        k.place(piece, 0, 0);
        is("24 there are 200", NONE, k.pack(15, 10, 0));
        is("24 it lies there still", piece, k.at(0, 0));
        is("24 still 200", 200, k.about(3));
        is("26 the last", 199, k.boxOf(199, 100));
        is("30 the last box", 199, k.recall(0, 2, 199));
    }

    private static void boxOf() {
        SugarKitchen k = Kitchens.kitchen();
        k.cut(0, 100, 2);
        k.cut(1, 100, 2);
        k.place(3, 0, 0);
        k.place(1, 0, 1);
        k.place(0, 0, 2);
        k.dip(0, 2, 40);
        is("26 packed", 0, k.pack(15, 330, 20));
        int[] want = {3, 340, 330, 15, 3};
        for (int what = 0; what < 5; what++) {
            is("26 what " + what, want[what], k.boxOf(0, what));
        }
        int[] pieces = {0, 1, 3, NONE};
        int[] lots = {0, 1, 2, NONE};
        for (int i = 0; i < 4; i++) {
            is("26 piece " + i, pieces[i], k.boxOf(0, 100 + i));
            is("26 lot " + i, lots[i], k.boxOf(0, 200 + i));
        }
        for (int what : new int[] {-1, 5, 99, 199, 240, 300, Integer.MAX_VALUE,
            Integer.MIN_VALUE}) {
            is("26 other " + what, NONE, k.boxOf(0, what));
        }
        is("26 no such box", NONE, k.boxOf(1, 0));
        is("26 no such box", NONE, k.boxOf(-1, 0));
        SugarKitchen plain = Kitchens.laid(100);
        plain.pack(1, 100, 0);
        is("26 one lot", 1, plain.boxOf(0, 4));
        is("26 its WARNINGS", 1, plain.boxOf(0, 3));
        SugarKitchen last = new SugarKitchen();
        for (int i = 0; i < 40; i++) {
            last.lot(1000, i == 39 ? 128 : 1);
        }
        int c = last.batch(3);
        last.put(c, 39, 500);
        last.cook(c, 1);
        last.vouch(c);
        last.cut(c, 100, 1);
        last.place(0, 0, 0);
        last.pack(1, 100, 0);
        is("26 the 40th lot", 39, last.boxOf(0, 200));
        is("26 its WARNINGS alone", 128, last.boxOf(0, 3));
    }

    private static void wash() {
        SugarKitchen k = new SugarKitchen();
        is("27 from below", false, k.wash(-1, 0, 5));
        is("27 from above", false, k.wash(6, 0, 5));
        is("27 to below", false, k.wash(0, -1, 5));
        is("27 to above", false, k.wash(0, 6, 5));
        is("27 minutes below", false, k.wash(0, 0, -1));
        is("27 minutes above", false, k.wash(0, 0, 601));
        k.batch(0);
        k.batch(5);
        k.queue(0);
        k.queue(1);
        is("27 at first 0", 0, k.order(false, NONE));
        is("27 one way", true, k.wash(0, 5, 600));
        is("27 the other way is 0", 0, k.order(false, NONE));
        is("27 so that goes first", 1, k.order(false, 0));
        is("27 the other way", true, k.wash(5, 0, 600));
        is("27 minutes", 600, k.order(false, NONE));
        is("27 as they stand", 0, k.order(false, 0));
        is("27 back to 0", true, k.wash(0, 5, 0));
        is("27 minutes", 0, k.order(false, NONE));
    }

    private static void queue() {
        SugarKitchen k = new SugarKitchen();
        is("28 no such batch", NONE, k.queue(0));
        for (int i = 0; i < 12; i++) {
            k.batch(i % 6);
        }
        is("28 no such batch", NONE, k.queue(12));
        is("28 no such batch", NONE, k.queue(-2));
        for (int i = 0; i < 10; i++) {
            is("28 comes", i + 1, k.queue(11 - i));
        }
        is("28 there are 10", NONE, k.queue(0));
        is("28 it is there", NONE, k.queue(5));
        is("28 about", 10, k.about(5));
        is("28 empty", 0, k.queue(NONE));
        is("28 about", 0, k.about(5));
        is("28 empty again", 0, k.queue(NONE));
        is("28 anew", 1, k.queue(5));
        is("28 it is there", NONE, k.queue(5));
        is("28 alone", 5, k.order(false, 0));
    }

    private static void order() {
        SugarKitchen k = new SugarKitchen();
        is("29 empty", 0, k.order(false, NONE));
        is("29 empty", NONE, k.order(true, 0));
        for (int kind : new int[] {4, 0, 4, 1, 5}) {
            k.batch(kind);
        }
        for (int batch : new int[] {2, 4, 0, 1, 3}) {
            k.queue(batch);
        }
        int[] asTheyStand = {2, 4, 0, 1, 3};
        int[] nutsLast = {4, 1, 3, 2, 0};
        for (int i = 0; i < 5; i++) {
            is("29 no washing " + i, asTheyStand[i], k.order(false, i));
            is("29 no washing, nuts last " + i, nutsLast[i], k.order(true, i));
        }
        is("29 below", NONE, k.order(false, -2));
        is("29 above", NONE, k.order(false, 5));
        k.wash(4, 4, 100);
        k.wash(5, 1, 7);
        k.wash(0, 1, 5);
        k.wash(0, 4, 3);
        k.wash(1, 0, 1);
        k.wash(1, 4, 2);
        int[] least = {2, 1, 4, 0, 3};
        int[] leastNutsLast = {3, 1, 4, 2, 0};
        is("29 least minutes", 0, k.order(false, NONE));
        is("29 nuts last costs", 101, k.order(true, NONE));
        for (int i = 0; i < 5; i++) {
            is("29 least " + i, least[i], k.order(false, i));
            is("29 least, nuts last " + i, leastNutsLast[i], k.order(true, i));
        }
        is("29 a new QUEUE", 0, k.queue(NONE));
        is("29 it is empty", 0, k.order(true, NONE));
        is("29 it is empty", NONE, k.order(true, 0));
        for (int batch : new int[] {0, 1, 2, 3, 4}) {
            k.queue(batch);
        }
        is("29 the same minutes", 101, k.order(true, NONE));
        is("29 the nut that stands earlier", 0, k.order(true, 3));
        orderOfTen();
    }

    private static void orderOfTen() {
        SugarKitchen k = new SugarKitchen();
        for (int i = 0; i < 10; i++) {
            k.batch(i % 2 == 0 ? 4 : 5);
            k.queue(i);
        }
        k.wash(4, 5, 600);
        k.wash(5, 4, 600);
        is("29 ten: one change", 600, k.order(false, NONE));
        is("29 ten: nuts stand earlier", 0, k.order(false, 0));
        is("29 ten: then the others", 1, k.order(false, 5));
        is("29 ten: the last", 9, k.order(false, 9));
        is("29 ten: nuts last", 600, k.order(true, NONE));
        is("29 ten: nuts last", 1, k.order(true, 0));
        is("29 ten: nuts last", 8, k.order(true, 9));
        is("29 ten: no more", NONE, k.order(true, 10));
        k.wash(4, 4, 600);
        k.wash(5, 5, 600);
        is("29 ten: the greatest sum", 9 * 600, k.order(true, NONE));
        is("29 ten: as they stand", 5, k.order(false, 5));
    }

    private static void recall() {
        SugarKitchen k = Kitchens.kitchen();
        k.put(k.batch(0), 0, 5);
        k.cut(0, 100, 2);
        k.cut(1, 100, 1);
        k.dip(1, 2, 10);
        k.place(1, 0, 0);
        k.place(2, 0, 1);
        k.pack(15, 110, 0);
        k.pack(15, 100, 0);
        int[][][] want = {{{0, 3, NONE}, {0, 1, NONE}, {0, NONE}}, {{1, NONE}, {2, NONE},
            {1, NONE}}, {{2, NONE}, {1, NONE}, {0, NONE}}};
        for (int lot = 0; lot < 3; lot++) {
            for (int what = 0; what < 3; what++) {
                for (int i = 0; i < want[lot][what].length; i++) {
                    is("30 lot " + lot + " what " + what + " i " + i, want[lot][what][i],
                            k.recall(lot, what, i));
                }
            }
        }
        is("30 what below", NONE, k.recall(0, -1, 0));
        is("30 what above", NONE, k.recall(0, 3, 0));
        is("30 i below", NONE, k.recall(0, 0, -1));
        is("30 no such lot", NONE, k.recall(3, 0, 0));
        is("30 no such lot", NONE, k.recall(-1, 0, 0));
        is("30 no such lot, by a shift", NONE, k.recall(64, 0, 0));
        k.lot(5, 0);
        is("30 in nothing", NONE, k.recall(3, 0, 0));
    }

    private static void about() {
        SugarKitchen k = Kitchens.laid(100, 100, 100);
        k.table(5, 5);
        k.queue(0);
        k.queue(2);
        k.pack(15, 100, 0);
        k.heat(2, 0);
        k.dip(1, 2, 10);
        int[] want = {3, 3, 3, 1, 1, 2, 1};
        for (int what = 0; what < 7; what++) {
            is("31 what " + what, want[what], k.about(what));
        }
        k.allow(1);
        is("31 FIT by hand", 2, k.about(6));
        k.take(2);
        is("31 loose is not FIT", 1, k.about(6));
        is("31 below", NONE, k.about(-1));
        is("31 above", NONE, k.about(7));
    }

    private static void left() {
        SugarKitchen k = new SugarKitchen();
        is("32 none", NONE, k.left(0));
        k.lot(10, 0);
        is("32 all", 10, k.left(0));
        k.batch(0);
        k.put(0, 0, 4);
        is("32 less", 6, k.left(0));
        k.cook(0, 1);
        is("32 cooking changes nothing", 6, k.left(0));
        is("32 below", NONE, k.left(-1));
        is("32 above", NONE, k.left(1));
    }
}
