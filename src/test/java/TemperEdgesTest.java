/**
 * Terms II and promises 15 and 16 at their edges: each sentence of the document that names one has
 * a test of its own here, with that sentence above it.
 */
public final class TemperEdgesTest {
    private static final int NONE = SugarKitchen.NONE;
    private static final int MIN = Integer.MIN_VALUE;
    private static final int MAX = Integer.MAX_VALUE;
    private static final Due DUE = new Due("TemperEdgesTest");
    private static final Edges EDGES = new Edges(DUE);

    public static void main(String[] args) {
        degreesThatMayBe();
        ticksThatMayBe();
        temperAtTheEndsOfInt();
        temperAtFirst();
        eachPhasesDegree();
        anotherOneSetsTheCountToNothing();
        atNTheNextPhaseBegins();
        tooHotInPhaseTwo();
        tooHotOrTooColdInTemper();
        otherTempers();
        whatCanBeHeated();
        degreesAtTheEndsOfInt();
        DUE.end();
    }

    private static void is(String what, int want, int got) {
        DUE.is(what, want, got);
    }

    private static void is(String what, boolean want, boolean got) {
        DUE.is(what, want, got);
    }

    /** "D2 below D3, D3 not above D4, D4 below D1, D5 not above D3"; "False, changing nothing" */
    private static void degreesThatMayBe() {
        EDGES.denied("15 D2 as D3", Kitchens::busy, k -> k.temper(40, 20, 20, 30, 10, 2));
        EDGES.denied("15 D2 above D3", Kitchens::busy, k -> k.temper(40, 21, 20, 30, 10, 2));
        EDGES.denied("15 D3 above D4", Kitchens::busy, k -> k.temper(40, 10, 31, 30, 10, 2));
        EDGES.denied("15 D4 as D1", Kitchens::busy, k -> k.temper(30, 10, 20, 30, 10, 2));
        EDGES.denied("15 D4 above D1", Kitchens::busy, k -> k.temper(29, 10, 20, 30, 10, 2));
        EDGES.denied("15 D5 above D3", Kitchens::busy, k -> k.temper(40, 10, 20, 30, 21, 2));
        EDGES.denied("15 D1 below all", Kitchens::busy, k -> k.temper(0, 10, 20, 30, 15, 2));
        is("15 D2 just below D3", true, Kitchens.busy().temper(40, 19, 20, 30, 10, 2));
        is("15 D3 as D4", true, Kitchens.busy().temper(40, 10, 30, 30, 10, 2));
        is("15 D4 just below D1", true, Kitchens.busy().temper(31, 10, 20, 30, 10, 2));
        is("15 D5 as D3", true, Kitchens.busy().temper(40, 10, 20, 30, 20, 2));
        is("15 D5 below D2", true, Kitchens.busy().temper(40, 10, 20, 30, -99, 2));
        is("15 D5 as D2", true, Kitchens.busy().temper(40, 10, 20, 30, 10, 2));
        is("15 all as near as may be", true, Kitchens.busy().temper(21, 19, 20, 20, 20, 2));
        is("15 below 0", true, Kitchens.busy().temper(-10, -40, -30, -20, -35, 2));
    }

    /** "N below 1 or above 20" */
    private static void ticksThatMayBe() {
        EDGES.ask("15 N", Kitchens::busy, 1, 20, (k, v) -> k.temper(40, 10, 20, 30, 15, v));
        EDGES.ask("15 N of the TEMPER at first", Kitchens::busy, 1, 20,
                (k, v) -> k.temper(450, 270, 310, 320, 290, v));
        SugarKitchen k = Kitchens.kitchen();
        k.temper(40, 10, 20, 30, 15, 20);
        for (int phase = 0; phase < 3; phase++) {
            int degree = new int[] {40, 10, 20}[phase];
            for (int i = 1; i < 20; i++) {
                is("15 of 20 in PHASE " + phase, phase, k.heat(2, degree));
                is("15 of 20 the count", i, k.batchOf(2, 10));
            }
            is("15 the 20th in PHASE " + phase, phase + 1, k.heat(2, degree));
            is("15 the next begins with 0", 0, k.batchOf(2, 10));
        }
        k.temper(40, 10, 20, 30, 15, 1);
        for (int phase = 0; phase < 3; phase++) {
            is("15 N of 1", phase + 1, k.heat(2, new int[] {40, 10, 20}[phase]));
            is("15 N of 1, the next begins with 0", 0, k.batchOf(2, 10));
        }
    }

    private static void temperAtTheEndsOfInt() {
        is("15 as wide as may be", true,
                Kitchens.busy().temper(MAX, MIN, MIN + 1, MAX - 1, MIN, 1));
        is("15 at the lower end", true,
                Kitchens.busy().temper(MIN + 2, MIN, MIN + 1, MIN + 1, MIN, 1));
        is("15 at the upper end", true,
                Kitchens.busy().temper(MAX, MAX - 2, MAX - 1, MAX - 1, MAX - 1, 1));
        EDGES.denied("15 D1 the least", Kitchens::busy, k -> k.temper(MIN, 27, 31, 32, 29, 2));
        EDGES.denied("15 D2 the greatest", Kitchens::busy, k -> k.temper(45, MAX, 31, 32, 29, 2));
        EDGES.denied("15 D3 the least", Kitchens::busy, k -> k.temper(45, 27, MIN, 32, 29, 2));
        EDGES.denied("15 D3 the greatest", Kitchens::busy, k -> k.temper(45, 27, MAX, 32, 29, 2));
        EDGES.denied("15 D4 the least", Kitchens::busy, k -> k.temper(45, 27, 31, MIN, 29, 2));
        EDGES.denied("15 D4 the greatest", Kitchens::busy, k -> k.temper(45, 27, 31, MAX, 29, 2));
        EDGES.denied("15 D5 the greatest", Kitchens::busy, k -> k.temper(45, 27, 31, 32, MAX, 2));
        EDGES.denied("15 all the least", Kitchens::busy, k -> k.temper(MIN, MIN, MIN, MIN, MIN, 2));
        EDGES.denied("15 all the greatest", Kitchens::busy,
                k -> k.temper(MAX, MAX, MAX, MAX, MAX, 2));
        is("15 D1 the greatest", true, Kitchens.busy().temper(MAX, 27, 31, 32, 29, 2));
        is("15 D2 the least", true, Kitchens.busy().temper(45, MIN, 31, 32, 29, 2));
        is("15 D5 the least", true, Kitchens.busy().temper(45, 27, 31, 32, MIN, 2));
    }

    /** A cooked COAT, batch 0, by this TEMPER, in a PHASE. */
    private static SugarKitchen coat(int phase, int... temper) {
        SugarKitchen k = Kitchens.oneLot();
        Kitchens.good(k, 5, 0, 1000);
        k.temper(temper[0], temper[1], temper[2], temper[3], temper[4], temper[5]);
        for (int i = 0; i < phase * temper[5]; i++) {
            k.heat(0, temper[i / temper[5]]);
        }
        is("16 in PHASE " + phase, phase, k.batchOf(0, 9));
        is("16 with 0", 0, k.batchOf(0, 10));
        return k;
    }

    private static void tick(String what, SugarKitchen k, int degree, int phase, int count) {
        is("16 " + what + ": PHASE behind " + degree, phase, k.heat(0, degree));
        is("16 " + what + ": count behind " + degree, count, k.batchOf(0, 10));
        is("16 " + what + ": PHASE told behind " + degree, phase, k.batchOf(0, 9));
    }

    /** "at first 450, 270, 310, 320, 290 and 2" */
    private static void temperAtFirst() {
        SugarKitchen k = Kitchens.oneLot();
        Kitchens.good(k, 5, 0, 1000);
        int[][] rows = {{449, 0, 0}, {450, 0, 1}, {450, 1, 0}, {271, 1, 0}, {270, 1, 1},
            {270, 2, 0}, {309, 2, 0}, {310, 2, 1}, {321, 0, 0}, {450, 0, 1}, {450, 1, 0},
            {270, 1, 1}, {270, 2, 0}, {320, 2, 1}, {320, 3, 0}, {320, 3, 0}, {290, 3, 0},
            {289, 0, 0}};
        for (int[] r : rows) {
            tick("at first", k, r[0], r[1], r[2]);
        }
    }

    /** "at which the degree is at least D1 (0), at most D2 (1), at least D3 (2)" */
    private static void eachPhasesDegree() {
        int[] t = {40, 10, 20, 30, 15, 2};
        tick("at D1", coat(0, t), 40, 0, 1);
        tick("above D1", coat(0, t), 41, 0, 1);
        tick("below D1", coat(0, t), 39, 0, 0);
        tick("at D2", coat(1, t), 10, 1, 1);
        tick("below D2", coat(1, t), 9, 1, 1);
        tick("above D2", coat(1, t), 11, 1, 0);
        tick("at D3", coat(2, t), 20, 2, 1);
        tick("above D3", coat(2, t), 21, 2, 1);
        tick("below D3", coat(2, t), 19, 2, 0);
        tick("in PHASE 1 above D4", coat(1, t), 99, 1, 0);
        tick("in PHASE 2 below D5", coat(2, t), 14, 2, 0);
    }

    /** "counting ticks one behind the other [..]; another one sets the count to 0" */
    private static void anotherOneSetsTheCountToNothing() {
        int[] t = {40, 10, 20, 30, 15, 3};
        int[] fits = {40, 10, 20};
        int[] other = {39, 11, 19};
        for (int phase = 0; phase < 3; phase++) {
            SugarKitchen k = coat(phase, t);
            tick("the first", k, fits[phase], phase, 1);
            tick("the second", k, fits[phase], phase, 2);
            tick("another one", k, other[phase], phase, 0);
            tick("anew", k, fits[phase], phase, 1);
            tick("another one again", k, other[phase], phase, 0);
            tick("the first", k, fits[phase], phase, 1);
            tick("the second", k, fits[phase], phase, 2);
            tick("the third", k, fits[phase], phase + 1, 0);
        }
    }

    /** "at N the next PHASE begins with 0": a tick counts in one PHASE alone. */
    private static void atNTheNextPhaseBegins() {
        int[] t = {40, 19, 20, 20, 20, 1};
        SugarKitchen k = coat(0, t);
        tick("N of 1", k, 40, 1, 0);
        tick("N of 1", k, 19, 2, 0);
        tick("N of 1", k, 20, 3, 0);
        tick("in TEMPER nothing is counted", k, 20, 3, 0);
        tick("in TEMPER nothing is counted", k, 20, 3, 0);
    }

    /** "In PHASE 2 a degree above D4 sets PHASE 0 with 0, and the tick counts there." */
    private static void tooHotInPhaseTwo() {
        int[] two = {40, 10, 20, 30, 15, 2};
        SugarKitchen k = coat(2, two);
        tick("a first one", k, 20, 2, 1);
        tick("at D4", k, 30, 3, 0);
        k = coat(2, two);
        tick("a first one", k, 20, 2, 1);
        tick("just above D4", k, 31, 0, 0);
        tick("just below D1", coat(2, two), 39, 0, 0);
        tick("at D1 it counts there", coat(2, two), 40, 0, 1);
        k = coat(2, two);
        k.heat(0, 20);
        tick("the count was set to 0 ahead", k, 40, 0, 1);
        tick("and goes on", k, 40, 1, 0);
        int[] one = {40, 10, 20, 30, 15, 1};
        tick("N of 1: PHASE 1 at once", coat(2, one), 40, 1, 0);
        tick("N of 1: just above D4", coat(2, one), 31, 0, 0);
    }

    /** "a degree above D4 or below D5 sets PHASE 0 with 0, and the tick counts there" */
    private static void tooHotOrTooColdInTemper() {
        int[] two = {40, 10, 20, 30, 15, 2};
        tick("at D4", coat(3, two), 30, 3, 0);
        tick("just above D4", coat(3, two), 31, 0, 0);
        tick("just below D1", coat(3, two), 39, 0, 0);
        tick("at D1", coat(3, two), 40, 0, 1);
        tick("at D5", coat(3, two), 15, 3, 0);
        tick("just below D5", coat(3, two), 14, 0, 0);
        tick("between D5 and D3", coat(3, two), 19, 3, 0);
        tick("far below", coat(3, two), MIN, 0, 0);
        int[] one = {40, 10, 20, 30, 15, 1};
        tick("N of 1: PHASE 1 at once", coat(3, one), 40, 1, 0);
        tick("N of 1: too cold", coat(3, one), 14, 0, 0);
        int[] low = {40, 10, 20, 30, 5, 2};
        tick("D5 below D2: at D2", coat(3, low), 10, 3, 0);
        tick("D5 below D2: at D5", coat(3, low), 5, 3, 0);
        tick("D5 below D2: below D5", coat(3, low), 4, 0, 0);
    }

    /** "Other TEMPERS set all COATS to PHASE 0 with 0." */
    private static void otherTempers() {
        int[] t = {40, 10, 20, 30, 15, 3};
        for (int i = 0; i < 6; i++) {
            SugarKitchen k = Kitchens.oneLot();
            for (int coat = 0; coat < 40; coat++) {
                Kitchens.good(k, 5, 0, 10);
            }
            k.temper(t[0], t[1], t[2], t[3], t[4], t[5]);
            heatTo(k, 0, 3, t);
            heatTo(k, 1, 2, t);
            k.heat(1, t[2]);
            heatTo(k, 39, 1, t);
            k.heat(39, t[1]);
            k.heat(39, t[1]);
            is("15 no other one is taken", true, k.temper(t[0], t[1], t[2], t[3], t[4], t[5]));
            is("15 no other one changes nothing", 3, k.batchOf(0, 9));
            is("15 no other one changes no count", 2, k.batchOf(39, 10));
            int[] o = t.clone();
            o[i]++;
            is("15 another one", true, k.temper(o[0], o[1], o[2], o[3], o[4], o[5]));
            for (int coat : new int[] {0, 1, 2, 39}) {
                is("15 another one in " + i + ": PHASE of " + coat, 0, k.batchOf(coat, 9));
                is("15 another one in " + i + ": count of " + coat, 0, k.batchOf(coat, 10));
            }
        }
        dippedStaysInTemper();
    }

    private static void heatTo(SugarKitchen k, int coat, int phase, int[] t) {
        for (int i = 0; i < phase * t[5]; i++) {
            k.heat(coat, t[i / t[5]]);
        }
    }

    /** A piece was dipped in TEMPER, whatever comes of its COAT later. */
    private static void dippedStaysInTemper() {
        SugarKitchen k = Kitchens.laid(100);
        is("18 in TEMPER", 1, k.dip(0, 2, 10));
        k.temper(40, 10, 20, 30, 15, 3);
        is("22 was in TEMPER", 1, k.pieceOf(0, 3));
        is("22 FIT still", 1, k.pieceOf(0, 8));
    }

    /** "A cooked COAT is heated tick by tick."; "NONE: no such batch." */
    private static void whatCanBeHeated() {
        EDGES.none("16 no such batch", Kitchens::busy, (k, v) -> k.heat(v, 450), -1, 12, 40);
        for (int batch : new int[] {0, 1, 4, 5, 6, 7, 8, 10}) {
            EDGES.refused("16 no COAT, " + batch, Kitchens::busy, k -> k.heat(batch, 450));
        }
        EDGES.refused("16 not cooked", Kitchens::busy, k -> k.heat(9, 450));
        is("16 cooked, though not GOOD", 3, Kitchens.busy().heat(11, 310));
        SugarKitchen k = Kitchens.kitchen();
        int good = Kitchens.good(k, 5, 0, 10);
        is("16 each COAT by itself", 0, k.heat(good, 450));
        is("16 the other is in TEMPER still", 3, k.batchOf(2, 9));
        k.cut(0, 10, 1);
        is("16 all of it is used up", 1, k.dip(0, 2, 10));
        is("16 the COAT that is heated was dipped", 10, k.batchOf(2, 12));
        k.cut(0, 10, 1);
        k.dip(1, good, 10);
        is("16 without MASS it can be heated", 1, k.heat(good, 450));
    }

    private static void degreesAtTheEndsOfInt() {
        int[] wide = {MAX, MIN, MIN + 1, MAX - 1, MIN, 1};
        SugarKitchen k = coat(0, wide);
        tick("below D1 at the end", k, MAX - 1, 0, 0);
        tick("D1 at the end", k, MAX, 1, 0);
        tick("above D2 at the end", k, MIN + 1, 1, 0);
        tick("D2 at the end", k, MIN, 2, 0);
        tick("below D3 at the end", k, MIN, 2, 0);
        tick("D3 at the end", k, MIN + 1, 3, 0);
        tick("nothing is below D5", k, MIN, 3, 0);
        tick("D4 at the end", k, MAX - 1, 3, 0);
        tick("above D4 at the end", k, MAX, 1, 0);
        int[] t = {40, 10, 20, 30, 15, 2};
        tick("MIN in PHASE 0", coat(0, t), MIN, 0, 0);
        tick("MAX in PHASE 0", coat(0, t), MAX, 0, 1);
        tick("MIN in PHASE 1", coat(1, t), MIN, 1, 1);
        tick("MAX in PHASE 1", coat(1, t), MAX, 1, 0);
        tick("MIN in PHASE 2", coat(2, t), MIN, 2, 0);
        tick("MAX in PHASE 2", coat(2, t), MAX, 0, 1);
        tick("MIN in TEMPER", coat(3, t), MIN, 0, 0);
        tick("MAX in TEMPER", coat(3, t), MAX, 0, 1);
    }
}
