import java.util.Arrays;
import java.util.function.Supplier;

/**
 * Terms III and promises 24 to 26 at their edges: each sentence of the document that names one has
 * a test of its own here, with that sentence above it.
 */
public final class BoxEdgesTest {
    private static final int NONE = SugarKitchen.NONE;
    private static final int MIN = Integer.MIN_VALUE;
    private static final int MAX = Integer.MAX_VALUE;
    private static final Due DUE = new Due("BoxEdgesTest");
    private static final Edges EDGES = new Edges(DUE);

    public static void main(String[] args) {
        packNumbers();
        twoHundredBoxes();
        nothingToPack();
        noneCanBe();
        atLeastWeightAtMostOver();
        leastSum();
        sumsAtSixtyFours();
        askedAgainWithLess();
        thoseThatLieFirst();
        fitPiecesOnly();
        theseSortsOnly();
        byTrayThenPlace();
        fortyAtMost();
        heavyChoices();
        wouldNumbers();
        wouldPacksNothing();
        full();
        most();
        mostOfTheFirstFourteen();
        boxOfOthers();
        boxesWeights();
        boxesWarnings();
        boxOfForty();
        DUE.end();
    }

    private static void is(String what, int want, int got) {
        DUE.is(what, want, got);
    }

    /** Box 0 is packed so, and has just these pieces. */
    private static void packs(String what, SugarKitchen k, int[] ask, int... pieces) {
        is("24 " + what, 0, k.pack(ask[0], ask[1], ask[2]));
        is("24 " + what + ": how many", pieces.length, k.boxOf(0, 0));
        for (int i = 0; i < pieces.length; i++) {
            is("24 " + what + ": piece " + i, pieces[i], k.boxOf(0, 100 + i));
        }
    }

    private static int[] ask(int sorts, int weight, int over) {
        return new int[] {sorts, weight, over};
    }

    // ---- Promise 24

    /** "by SORTS (1 .. 15), WEIGHT (1 .. 8000), OVER (0 .. 500)"; "NONE, changing nothing" */
    private static void packNumbers() {
        Supplier<SugarKitchen> one = () -> Kitchens.laid(100);
        EDGES.range("24 SORTS", one, 1, 15, (k, v) -> k.pack(v, 100, 0));
        Supplier<SugarKitchen> many = () -> Kitchens.laid(10, 2000, 2000, 2000, 2000);
        EDGES.range("24 WEIGHT", many, 1, 8000, (k, v) -> k.pack(15, v, 9));
        EDGES.range("24 OVER", one, 0, 500, (k, v) -> k.pack(15, 100, v));
        is("24 by the least numbers", 0, Kitchens.laid(10).pack(1, 1, 9));
        is("24 by the greatest numbers", 0, many.get().pack(15, 8000, 500));
        for (int end : new int[] {MIN, MAX}) {
            EDGES.refused("24 all at " + end, one, k -> k.pack(end, end, end));
            EDGES.refused("24 WEIGHT and OVER at " + end, one, k -> k.pack(15, end, end));
        }
        EDGES.refused("24 WEIGHT and OVER that wrap round", one, k -> k.pack(15, MAX, 500));
        EDGES.refused("24 SORTS with a bit more", one, k -> k.pack(17, 100, 0));
    }

    /** "there are 200" */
    private static void twoHundredBoxes() {
        SugarKitchen k = Kitchens.twoHundredBoxes();
        is("24 200 there are", 200, k.about(3));
        is("24 the last has a piece", 199, k.boxOf(199, 100));
        is("24 there is no 200", NONE, k.boxOf(200, 0));
        EDGES.refused("24 the 201st", Kitchens::twoHundredBoxes, q -> q.pack(15, 10, 0));
        EDGES.refused("24 the 201st of two", Kitchens::twoHundredBoxes, q -> q.pack(15, 20, 0));
        is("24 the pieces lie there", 2, k.about(6));
        is("25 to choose from", 2, k.would(15, 10, 0, 4));
    }

    /** "none can be": no piece at all, or none that is FIT. */
    private static void nothingToPack() {
        EDGES.refused("24 a new kitchen", SugarKitchen::new, k -> k.pack(15, 1, 500));
        EDGES.refused("24 empty TRAYS", Kitchens::kitchen, k -> k.pack(15, 1, 500));
        EDGES.refused("24 loose pieces", () -> {
            SugarKitchen k = Kitchens.laid(100);
            k.take(0);
            return k;
        }, k -> k.pack(15, 1, 500));
        EDGES.refused("24 packed already", () -> {
            SugarKitchen k = Kitchens.laid(100);
            k.pack(15, 100, 0);
            return k;
        }, k -> k.pack(15, 1, 500));
    }

    /** "none can be": too little, or only beside. */
    private static void noneCanBe() {
        EDGES.refused("24 all are one too light", () -> Kitchens.laid(100, 99),
                k -> k.pack(15, 200, 500));
        EDGES.refused("24 the one is too heavy", () -> Kitchens.laid(100), k -> k.pack(15, 1, 98));
        EDGES.refused("24 one is too light, two too heavy", () -> Kitchens.laid(100, 100),
                k -> k.pack(15, 101, 98));
        EDGES.refused("24 none can be among many", () -> Kitchens.laidAlike(100, 60),
                k -> k.pack(15, 3901, 98));
        for (int what = 0; what < 2; what++) {
            is("25 none can be: " + what, NONE, Kitchens.laid(100, 99).would(15, 200, 500, what));
        }
    }

    /** "at least WEIGHT, and at most OVER more" */
    private static void atLeastWeightAtMostOver() {
        packs("just WEIGHT", Kitchens.laid(60, 40), ask(15, 100, 0), 0, 1);
        packs("just OVER more", Kitchens.laid(60, 40), ask(15, 90, 10), 0, 1);
        packs("at least WEIGHT", Kitchens.laid(99, 101), ask(15, 100, 500), 1);
        is("24 one more than OVER", NONE, Kitchens.laid(60, 40).pack(15, 90, 9));
        is("24 one less than WEIGHT", NONE, Kitchens.laid(60, 40).pack(15, 101, 500));
        packs("WEIGHT 1", Kitchens.laid(10), ask(15, 1, 9), 0);
        is("24 WEIGHT 1, OVER 8", NONE, Kitchens.laid(10).pack(15, 1, 8));
        packs("8000", Kitchens.laid(2000, 2000, 2000, 2000), ask(15, 8000, 0), 0, 1, 2, 3);
        is("24 8000 of 7999", NONE, Kitchens.laid(2000, 2000, 2000, 1999).pack(15, 8000, 500));
        packs("8500", Kitchens.laid(2000, 2000, 2000, 1250, 1250), ask(15, 8000, 500), 0, 1, 2, 3,
                4);
        is("24 8501", NONE, Kitchens.laid(2000, 2000, 2000, 1251, 1250).pack(15, 8000, 500));
        is("24 8500 by 7999", NONE,
                Kitchens.laid(2000, 2000, 2000, 1250, 1250).pack(15, 7999, 500));
    }

    /** "of all such with the least sum" */
    private static void leastSum() {
        packs("one over rather than two", Kitchens.laid(102, 101), ask(15, 100, 2), 1);
        packs("none over rather than one", Kitchens.laid(101, 50, 50), ask(15, 100, 500), 1, 2);
        packs("many rather than one over", Kitchens.laid(101, 10, 10, 10, 10, 10, 10, 10, 10, 10,
                10), ask(15, 100, 1), 1, 2, 3, 4, 5, 6, 7, 8, 9, 10);
        packs("128 among like sums", Kitchens.laid(64, 63, 65, 128, 127), ask(15, 128, 500), 1, 2);
        packs("127 among like sums", Kitchens.laid(64, 63, 65, 128, 127), ask(15, 127, 500), 0, 1);
        packs("129 at least", Kitchens.laid(64, 63, 65, 128, 130), ask(15, 129, 500), 0, 2);
    }

    /** The sums are kept 64 by 64: weights and sums there and beside. */
    private static void sumsAtSixtyFours() {
        packs("65 and 63", Kitchens.laid(65, 63), ask(15, 128, 0), 0, 1);
        packs("63 and 65", Kitchens.laid(63, 65), ask(15, 128, 0), 0, 1);
        packs("64 and 64", Kitchens.laid(64, 64), ask(15, 128, 0), 0, 1);
        packs("127 and 129", Kitchens.laid(127, 129), ask(15, 256, 0), 0, 1);
        is("24 64 and 100 are never 128", NONE, Kitchens.laid(64, 100).pack(15, 120, 20));
        is("24 128 and 100 are never 192", NONE, Kitchens.laid(128, 100).pack(15, 180, 20));
        packs("one too heavy, 63 behind it", Kitchens.laid(101, 63, 37), ask(15, 100, 0), 1, 2);
        packs("too heavy by 2, 62 behind it", Kitchens.laid(102, 62, 38), ask(15, 100, 0), 1, 2);
        for (int weight : new int[] {63, 64, 65, 127, 128, 129, 1999, 2000}) {
            for (int over : new int[] {0, 1, 50, 62}) {
                packs(weight + " alone, " + over, Kitchens.laid(weight), ask(15, weight - over,
                        over), 0);
                is("24 " + weight + " by one less", NONE,
                        Kitchens.laid(weight).pack(15, weight - over - 1, over));
                is("24 " + weight + " by one more", NONE,
                        Kitchens.laid(weight).pack(15, weight + 1, over));
            }
        }
    }

    /** What an earlier question left behind is in no later answer. */
    private static void askedAgainWithLess() {
        int[] weights = {100, 70, 50, 40, 90, 65, 33};
        for (int left = weights.length; left >= 0; left--) {
            SugarKitchen used = Kitchens.laid(weights);
            for (int what = 0; what < 5; what++) {
                used.would(15, 448, 500, what);
                used.would(15, 8000, 500, what);
                used.would(15, 33, 20, what);
            }
            for (int i = left; i < weights.length; i++) {
                used.take(i);
            }
            for (int weight = 10; weight < 460; weight += 7) {
                for (int what = 0; what < 5; what++) {
                    SugarKitchen fresh = Kitchens.laid(Arrays.copyOf(weights, left));
                    is("25 of " + left + " by " + weight + ", " + what,
                            fresh.would(15, weight, 6, what), used.would(15, weight, 6, what));
                }
            }
        }
    }

    /** "of two ways that one which has the first piece (in CHOICE) that just one of them has" */
    private static void thoseThatLieFirst() {
        packs("the first of like ones", Kitchens.laid(50, 50, 50), ask(15, 50, 0), 0);
        packs("the first two of three", Kitchens.laid(50, 50, 50), ask(15, 100, 0), 0, 1);
        packs("with the first, though of more pieces", Kitchens.laid(10, 100, 40, 50),
                ask(15, 100, 0), 0, 2, 3);
        packs("with the first, though of fewer", Kitchens.laid(100, 40, 10, 50), ask(15, 100, 0),
                0);
        packs("the first can't come", Kitchens.laid(99, 60, 40, 50, 50), ask(15, 100, 0), 1, 2);
        packs("they part at the third", Kitchens.laid(10, 20, 30, 70, 40), ask(15, 100, 0), 0, 1,
                2, 4);
        packs("they part late", Kitchens.laid(10, 20, 30, 25, 15, 40, 40), ask(15, 100, 0), 0, 1, 2,
                3, 4);
        packs("the least sum comes ahead of it", Kitchens.laid(60, 41, 50, 50), ask(15, 100, 500),
                2, 3);
    }

    /** "FIT pieces" */
    private static void fitPiecesOnly() {
        SugarKitchen k = Kitchens.laid(100, 100, 100);
        k.heat(2, 0);
        k.dip(0, 2, 10);
        k.dip(1, 2, 10);
        is("24 not FIT", NONE, k.pack(4, 110, 0));
        k.allow(1);
        packs("ALLOWED", k, ask(4, 110, 0), 1);
        is("24 the other isn't", NONE, k.pack(4, 110, 0));
        is("24 the undipped one is", 1, k.pack(1, 100, 0));
    }

    /** "of these SORTS", "(bit k for SORT k)" */
    private static void theseSortsOnly() {
        for (int sorts = 1; sorts <= 15; sorts++) {
            SugarKitchen k = Kitchens.kitchen();
            k.cut(0, 10, 2);
            k.cut(1, 10, 2);
            k.dip(1, 2, 3);
            k.dip(3, 2, 3);
            int[] pieceOfSort = {0, 2, 1, 3};
            int weight = 0;
            for (int sort = 0; sort < 4; sort++) {
                k.place(pieceOfSort[sort], 0, sort);
                weight += (sorts >> sort & 1) == 0 ? 0 : sort < 2 ? 10 : 13;
            }
            is("25 of SORTS " + sorts, Integer.bitCount(sorts), k.would(sorts, 1, 0, 4));
            is("24 of SORTS " + sorts, 0, k.pack(sorts, weight, 0));
            for (int sort = 0; sort < 4; sort++) {
                is("24 of SORTS " + sorts + ", where " + sort + " is", (sorts >> sort & 1) + 1,
                        k.pieceOf(pieceOfSort[sort], 5));
            }
        }
    }

    /** "by TRAY, then place" */
    private static void byTrayThenPlace() {
        SugarKitchen k = Kitchens.kitchen();
        k.cut(0, 100, 4);
        k.place(0, 5, 23);
        k.place(1, 1, 0);
        k.place(2, 0, 23);
        k.place(3, 5, 0);
        int[] first = {2, 1, 3, 0};
        for (int box = 0; box < 4; box++) {
            is("24 one more", box, k.pack(15, 100, 0));
            is("24 by TRAY, then place", first[box], k.boxOf(box, 100));
        }
    }

    /** "40 at most" */
    private static void fortyAtMost() {
        for (int many : new int[] {0, 1, 39, 40, 41, 144}) {
            is("25 to choose from of " + many, Math.min(many, 40),
                    Kitchens.laidAlike(10, many).would(15, 1, 0, 4));
        }
        is("24 the 40th is among them", 0, lightBehind(39).pack(15, 55, 0));
        is("24 the 41st isn't", NONE, lightBehind(40).pack(15, 55, 0));
        EDGES.refused("24 the 41st", () -> lightBehind(40), k -> k.pack(15, 55, 0));
        is("25 nor for FULL", 0, lightBehind(40).would(15, 55, 0, 2));
        SugarKitchen k = lightBehind(40);
        k.take(7);
        is("24 one ahead of it is taken away", 0, k.pack(15, 55, 0));
        k = lightBehind(40);
        k.dip(7, 2, 1);
        is("24 one ahead of it is of another SORT", 0, k.pack(1, 55, 0));
        is("25 all 40 in a box", 40, Kitchens.laidAlike(200, 41).would(15, 8000, 0, 1));
        is("25 41 can't be", NONE, Kitchens.laidAlike(100, 41).would(15, 4001, 99, 0));
    }

    /** So many of 100 on the first places and one of 55 behind them. */
    private static SugarKitchen lightBehind(int many) {
        SugarKitchen k = Kitchens.laidAlike(100, many);
        k.cut(0, 55, 1);
        k.place(many, many / 24, many % 24);
        return k;
    }

    /** Weights beyond all that can be asked for, alone and together. */
    private static void heavyChoices() {
        SugarKitchen k = Kitchens.laidAlike(2000, 40);
        for (int i = 0; i < 40; i++) {
            k.dip(i, 2, 1000);
        }
        is("24 3000 at least", 1, k.would(15, 2501, 499, 1));
        is("24 3000 at most", NONE, k.would(15, 2500, 499, 1));
        is("24 6000", 2, k.would(15, 6000, 0, 1));
        is("24 9000 can't be", NONE, k.would(15, 8000, 500, 1));
        is("25 FULL of 6000", 20, k.would(15, 6000, 0, 2));
        is("25 MOST of 6000", 7, k.would(15, 6000, 0, 3));
        is("25 MOST of 9000", 0, k.would(15, 8000, 500, 3));
    }

    // ---- Promise 25

    /** "NONE for other numbers; of 0, 1 also if none can be." */
    private static void wouldNumbers() {
        Supplier<SugarKitchen> one = () -> Kitchens.laid(100);
        for (int what = 0; what < 5; what++) {
            int asked = what;
            EDGES.range("25 SORTS of " + what, one, 1, 15, (k, v) -> k.would(v, 100, 0, asked));
            EDGES.range("25 OVER of " + what, one, 0, 500, (k, v) -> k.would(15, 100, v, asked));
            EDGES.range("25 WEIGHT of " + what, () -> Kitchens.laid(10, 2000, 2000, 2000, 2000), 1,
                    8000, (k, v) -> k.would(15, v, 9, asked));
        }
        EDGES.range("25 what", one, 0, 4, (k, v) -> k.would(15, 100, 0, v));
        EDGES.none("25 what, if none can be", one, (k, v) -> k.would(15, 101, 0, v), -1, 5, 0, 1);
        int[] nothing = {NONE, NONE, 0, 0, 0};
        for (int what = 0; what < 5; what++) {
            is("25 nothing: " + what, nothing[what], new SugarKitchen().would(15, 1, 500, what));
            is("25 nothing FIT: " + what, nothing[what], Kitchens.kitchen().would(15, 1, 0, what));
        }
        is("25 just none over", 0, one.get().would(15, 100, 500, 0));
        is("25 just all over", 99, one.get().would(15, 1, 99, 0));
        is("25 500 over", 500, Kitchens.laid(1500).would(15, 1000, 500, 0));
        is("25 501 over", NONE, Kitchens.laid(1501).would(15, 1000, 500, 0));
    }

    /** "without packing" */
    private static void wouldPacksNothing() {
        SugarKitchen k = Kitchens.busy();
        String at = String.join("\n", Look.at(k));
        for (int what = -1; what < 6; what++) {
            k.would(15, 100, 500, what);
            k.would(1, 100, 0, what);
        }
        is("25 nothing is changed", 0, at.compareTo(String.join("\n", Look.at(k))));
        is("24 and then it is packed", 1, k.pack(15, 100, 500));
    }

    /** "FULL: how many boxes can be packed so one behind the other, until none can." */
    private static void full() {
        is("25 FULL of none", 0, Kitchens.laid(99).would(15, 100, 500, 2));
        is("25 FULL of one", 1, Kitchens.laid(100).would(15, 100, 500, 2));
        is("25 FULL of 144", 144, Kitchens.laidAlike(10, 144).would(15, 10, 0, 2));
        is("25 FULL of 600 is of the TRAYS alone", 144,
                Kitchens.laidAlike(10, 600).would(15, 10, 0, 2));
        is("25 FULL of 41: the last comes up", 41, Kitchens.laidAlike(10, 41).would(15, 10, 0, 2));
        is("25 FULL in pairs of 41", 20, Kitchens.laidAlike(10, 41).would(15, 20, 0, 2));
        is("25 FULL of 40 in one, and the rest", 3,
                Kitchens.laidAlike(200, 120).would(15, 8000, 0, 2));
        is("25 FULL of what is behind comes up", 41, lightBehind(40).would(15, 55, 45, 2));
        is("25 FULL is less than may be", 2, Kitchens.laid(50, 30, 20, 90, 80, 60)
                .would(15, 100, 50, 2));
        is("25 FULL at 200 boxes", 2, Kitchens.twoHundredBoxes().would(15, 10, 0, 2));
        SugarKitchen k = Kitchens.laidAlike(10, 144);
        int packed = 0;
        while (packed < 200 && k.pack(15, 25, 5) != NONE) {
            packed++;
        }
        is("25 FULL is what can be packed", packed,
                Kitchens.laidAlike(10, 144).would(15, 25, 5, 2));
    }

    /** "the most boxes into which (some of) them can be parted, each within WEIGHT and OVER" */
    private static void most() {
        is("25 MOST of none", 0, Kitchens.laid(99).would(15, 100, 500, 3));
        is("25 MOST of one", 1, Kitchens.laid(100).would(15, 100, 0, 3));
        is("25 MOST: just OVER", 1, Kitchens.laid(110).would(15, 100, 10, 3));
        is("25 MOST: one more", 0, Kitchens.laid(111).would(15, 100, 10, 3));
        is("25 MOST: some are left", 2, Kitchens.laid(60, 50, 50, 40, 30).would(15, 100, 0, 3));
        is("25 MOST is more than FULL", 3, Kitchens.laid(50, 30, 20, 90, 80, 60)
                .would(15, 100, 50, 3));
        is("25 MOST: a heavy one is left", 1, Kitchens.laid(2000, 60, 40).would(15, 100, 0, 3));
        is("25 MOST: only heavy ones", 0, Kitchens.laid(2000, 2000).would(15, 100, 500, 3));
        is("25 MOST: not as the heaviest would go", 2, Kitchens.laid(60, 50, 40, 30, 20)
                .would(15, 100, 0, 3));
        is("25 MOST: the heaviest is left", 1, Kitchens.laid(60, 55, 45).would(15, 100, 0, 3));
        is("25 MOST: no piece is in two", 1, Kitchens.laid(60, 60, 40, 39, 38)
                .would(15, 100, 0, 3));
        is("25 MOST by the least WEIGHT", 3, Kitchens.laid(10, 10, 10).would(15, 1, 9, 3));
        is("25 MOST by the greatest WEIGHT", 1, Kitchens.laid(2000, 2000, 2000, 2000, 2000)
                .would(15, 8000, 0, 3));
    }

    /** "MOST: of the first 14 of CHOICE" */
    private static void mostOfTheFirstFourteen() {
        for (int many : new int[] {1, 13, 14, 15, 40, 41, 144}) {
            is("25 MOST of " + many, Math.min(many, 14),
                    Kitchens.laidAlike(10, many).would(15, 10, 0, 3));
            is("25 MOST in pairs of " + many, Math.min(many, 14) / 2,
                    Kitchens.laidAlike(10, many).would(15, 20, 0, 3));
        }
        is("25 the 14th is among them", 1, lightBehind(13).would(15, 55, 0, 3));
        is("25 the 15th isn't", 0, lightBehind(14).would(15, 55, 0, 3));
        SugarKitchen k = lightBehind(14);
        k.dip(3, 2, 1);
        is("25 the first of these SORTS", 1, k.would(1, 55, 0, 3));
        is("25 all 14 in one", 1, Kitchens.laidAlike(100, 20).would(15, 1400, 0, 3));
        is("25 not 15", 0, Kitchens.laidAlike(100, 20).would(15, 1500, 0, 3));
    }

    // ---- Promise 26

    /** "NONE for others." */
    private static void boxOfOthers() {
        EDGES.none("26 no such box", Kitchens::busy, (k, v) -> k.boxOf(v, 0), -1, 1, 200);
        EDGES.none("26 what", Kitchens::busy, (k, v) -> k.boxOf(0, v), -1, 5, 6, 99, 101, 199, 201,
                239, 240, 299, 300);
        SugarKitchen k = Kitchens.busy();
        int[] want = {1, 250, 250, 6, 1};
        for (int what = 0; what < 5; what++) {
            is("26 what " + what, want[what], k.boxOf(0, what));
        }
        is("26 its piece", 7, k.boxOf(0, 100));
        is("26 its lot", 1, k.boxOf(0, 200));
        for (int what : new int[] {0, 1, 2, 3, 4, 100, 200}) {
            is("26 none in a new kitchen", NONE, new SugarKitchen().boxOf(0, what));
        }
    }

    /** "its weight, 2 the WEIGHT it was packed by" */
    private static void boxesWeights() {
        SugarKitchen k = Kitchens.laid(150);
        k.pack(15, 1, 500);
        is("26 its weight", 150, k.boxOf(0, 1));
        is("26 its WEIGHT", 1, k.boxOf(0, 2));
    }

    /** "all WARNINGS of the lots in it together": a WARNING that two lots have is one. */
    private static void boxesWarnings() {
        SugarKitchen k = Kitchens.kitchen();
        k.cut(1, 100, 1);
        k.dip(0, 2, 10);
        k.place(0, 0, 0);
        k.pack(15, 110, 0);
        is("26 WARNINGS 6 and 12 together", 14, k.boxOf(0, 3));
        is("26 two lots", 2, k.boxOf(0, 4));
        is("26 the first lot", 1, k.boxOf(0, 200));
        is("26 the second lot", 2, k.boxOf(0, 201));
        is("26 no third lot", NONE, k.boxOf(0, 202));
    }

    /** "its i-th piece, [..] its i-th lot (both rising)": 40 of each, the most there can be. */
    private static void boxOfForty() {
        SugarKitchen k = new SugarKitchen();
        for (int i = 0; i < 40; i++) {
            k.lot(1000, i == 39 ? 128 : i == 0 ? 1 : 0);
        }
        k.batch(3);
        for (int lot = 39; lot >= 0; lot--) {
            k.put(0, lot, 1000);
        }
        k.cook(0, 1);
        k.vouch(0);
        k.cut(0, 200, 40);
        for (int i = 0; i < 40; i++) {
            k.place(39 - i, i / 24, i % 24);
        }
        is("24 all 40", 0, k.pack(1, 8000, 0));
        is("26 40 pieces", 40, k.boxOf(0, 0));
        is("26 40 lots", 40, k.boxOf(0, 4));
        is("26 WARNINGS of the first and the last", 129, k.boxOf(0, 3));
        for (int i = 0; i < 40; i++) {
            is("26 piece " + i, i, k.boxOf(0, 100 + i));
            is("26 lot " + i, i, k.boxOf(0, 200 + i));
        }
        is("26 no 41st piece", NONE, k.boxOf(0, 140));
        is("26 no 100th piece, but a lot", 0, k.boxOf(0, 200));
        is("26 no 41st lot", NONE, k.boxOf(0, 240));
        is("26 no lot by a wrap round", NONE, k.boxOf(0, 264));
    }
}
