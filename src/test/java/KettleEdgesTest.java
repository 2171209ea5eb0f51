/**
 * Promises 27 to 32 and the Terms' QUEUE at their edges: each sentence of the document that names
 * one has a test of its own here, with that sentence above it.
 */
public final class KettleEdgesTest {
    private static final int NONE = SugarKitchen.NONE;
    private static final int MIN = Integer.MIN_VALUE;
    private static final int MAX = Integer.MAX_VALUE;
    private static final Due DUE = new Due("KettleEdgesTest");
    private static final Edges EDGES = new Edges(DUE);

    public static void main(String[] args) {
        washNumbers();
        washAtFirstNothing();
        washFromOneToAnother();
        queueNoneTwice();
        queueUpToTen();
        queueEmptied();
        orderOfFew();
        orderIndex();
        orderNutsLast();
        orderOfLikeSums();
        orderOfTen();
        orderAfterChanges();
        recallNumbers();
        recallRising();
        recallTheLast();
        about();
        left();
        DUE.end();
    }

    private static void is(String what, int want, int got) {
        DUE.is(what, want, got);
    }

    private static void is(String what, boolean want, boolean got) {
        DUE.is(what, want, got);
    }

    /** Batches 0, 1, .. of these KINDS, all in the QUEUE in this order. */
    private static SugarKitchen queued(int... kinds) {
        SugarKitchen k = new SugarKitchen();
        for (int i = 0; i < kinds.length; i++) {
            k.batch(kinds[i]);
            is("28 comes", i + 1, k.queue(i));
        }
        return k;
    }

    private static void order(String what, SugarKitchen k, boolean nutsLast, int minutes,
            int... batches) {
        is("29 " + what + ": minutes", minutes, k.order(nutsLast, NONE));
        for (int i = 0; i < batches.length; i++) {
            is("29 " + what + ": " + i, batches[i], k.order(nutsLast, i));
        }
        is("29 " + what + ": none behind", NONE, k.order(nutsLast, batches.length));
    }

    // ---- Promise 27

    /** "from a KIND to a KIND (0 .. 600 minutes): true. False for others." */
    private static void washNumbers() {
        EDGES.ask("27 from", Kitchens::busy, 0, 5, (k, v) -> k.wash(v, 2, 1));
        EDGES.ask("27 to", Kitchens::busy, 0, 5, (k, v) -> k.wash(2, v, 1));
        EDGES.ask("27 minutes", Kitchens::busy, 0, 600, (k, v) -> k.wash(0, 1, v));
        EDGES.denied("27 from -1 to 6", Kitchens::busy, k -> k.wash(-1, 6, 1));
        EDGES.denied("27 from 1 to -1", Kitchens::busy, k -> k.wash(1, -1, 1));
        EDGES.denied("27 from 0 to 6", Kitchens::busy, k -> k.wash(0, 6, 1));
        EDGES.denied("27 from 6 to -6", Kitchens::busy, k -> k.wash(6, -6, 1));
    }

    /** "WASHING minutes from a KIND to a KIND (at first 0)" */
    private static void washAtFirstNothing() {
        for (int from = 0; from < 6; from++) {
            for (int to = 0; to < 6; to++) {
                order("at first " + from + " " + to, queued(from, to), false, 0, 0, 1);
            }
        }
    }

    private static void washFromOneToAnother() {
        for (int from = 0; from < 6; from++) {
            for (int to = 0; to < 6; to++) {
                SugarKitchen k = queued(from, to);
                is("27 600", true, k.wash(from, to, 600));
                if (from == to) {
                    order("of one KIND", k, false, 600, 0, 1);
                } else {
                    order("turned round", k, false, 0, 1, 0);
                    is("27 599 back", true, k.wash(to, from, 599));
                    order("turned round, less", k, false, 599, 1, 0);
                    k.wash(to, from, 600);
                    order("alike", k, false, 600, 0, 1);
                }
                is("27 nothing again", true, k.wash(from, to, 0));
                order("nothing again", k, false, 0, 0, 1);
            }
        }
    }

    // ---- Promise 28

    /** "no such batch, it is there" */
    private static void queueNoneTwice() {
        EDGES.none("28 no such batch", Kitchens::busy, SugarKitchen::queue, -2, 12, 40);
        for (int there : new int[] {4, 1, 5}) {
            EDGES.refused("28 it is there, " + there, Kitchens::busy, k -> k.queue(there));
        }
        EDGES.refused("28 none in a new kitchen", SugarKitchen::new, k -> k.queue(0));
        SugarKitchen k = Kitchens.fortyBatches();
        is("28 the last batch", 1, k.queue(39));
        is("28 the first batch", 2, k.queue(0));
        is("28 the last twice", NONE, k.queue(39));
        is("28 there is no 40", NONE, k.queue(40));
        for (int raw : new int[] {0, 2, 3, 6, 7, 8, 9, 10, 11}) {
            is("28 cooked or raw, GOOD or not", 4, Kitchens.busy().queue(raw));
        }
    }

    /** "up to 10 batches"; "or there are 10" */
    private static void queueUpToTen() {
        SugarKitchen k = Kitchens.tenInTheQueue();
        is("31 10 there are", 10, k.about(5));
        EDGES.refused("28 the 11th", Kitchens::tenInTheQueue, q -> q.queue(10));
        EDGES.refused("28 one of the ten", Kitchens::tenInTheQueue, q -> q.queue(9));
        SugarKitchen nine = new SugarKitchen();
        for (int i = 0; i < 11; i++) {
            nine.batch(0);
        }
        for (int i = 0; i < 9; i++) {
            nine.queue(i);
        }
        is("28 the tenth", 10, nine.queue(10));
        is("28 not the eleventh", NONE, nine.queue(9));
    }

    /** "A batch NONE: the QUEUE is empty: 0." */
    private static void queueEmptied() {
        SugarKitchen k = Kitchens.tenInTheQueue();
        is("28 emptied", 0, k.queue(NONE));
        is("31 none there", 0, k.about(5));
        order("of none", k, false, 0);
        order("of none, nuts last", k, true, 0);
        is("28 emptied again", 0, k.queue(NONE));
        for (int i = 0; i < 10; i++) {
            is("28 may come again", i + 1, k.queue(11 - i));
        }
        is("28 not one more", NONE, k.queue(0));
        is("28 emptied anew", 0, k.queue(NONE));
        is("28 none in a new kitchen", 0, new SugarKitchen().queue(NONE));
        is("28 and the next is the first", 1, k.queue(7));
        order("of it alone", k, false, 0, 7);
    }

    // ---- Promise 29

    /** "(of an empty QUEUE the minutes are 0)"; "between each two neighbours" */
    private static void orderOfFew() {
        for (boolean nutsLast : new boolean[] {false, true}) {
            order("of none", new SugarKitchen(), nutsLast, 0);
            for (int kind = 0; kind < 6; kind++) {
                SugarKitchen one = queued(kind);
                one.wash(kind, kind, 600);
                order("of one", one, nutsLast, 0, 0);
                SugarKitchen two = queued(kind, kind);
                two.wash(kind, kind, 600);
                order("of two", two, nutsLast, 600, 0, 1);
            }
        }
    }

    /** "its minutes (i NONE), or its i-th batch. NONE if there is none such" */
    private static void orderIndex() {
        for (int v : new int[] {-2, 3, 10, MIN, MIN + 1, MAX - 1, MAX}) {
            EDGES.refused("29 i " + v, Kitchens::busy, k -> k.order(false, v));
            EDGES.refused("29 i " + v + ", nuts last", Kitchens::busy, k -> k.order(true, v));
        }
        SugarKitchen ten = Kitchens.tenInTheQueue();
        is("29 the last of ten", 9, ten.order(false, 9));
        is("29 no more than ten", NONE, ten.order(false, 10));
        is("29 ten, nuts last", 4, ten.order(true, 9));
    }

    /** "nuts last, if told: all NUTS behind all others" */
    private static void orderNutsLast() {
        order("NUTS alone", queued(4, 4, 4), true, 0, 0, 1, 2);
        order("no NUT", queued(5, 0, 5), true, 0, 0, 1, 2);
        order("a NUT ahead", queued(4, 0, 1), true, 0, 1, 2, 0);
        order("a NUT ahead, not told", queued(4, 0, 1), false, 0, 0, 1, 2);
        order("NUTS between", queued(0, 4, 1, 4, 2), true, 0, 0, 2, 4, 1, 3);
        SugarKitchen dear = queued(4, 0);
        dear.wash(0, 4, 600);
        order("though it costs", dear, true, 600, 1, 0);
        order("not told, it costs nothing", dear, false, 0, 0, 1);
        SugarKitchen last = queued(0, 1, 4);
        last.wash(1, 4, 9);
        order("the least on to the NUTS", last, true, 0, 1, 0, 2);
        SugarKitchen centres = queued(4, 3);
        order("a CENTRE is no NUT", centres, true, 0, 1, 0);
    }

    /** "that has at the first place where they part the batch that stands earlier in the QUEUE" */
    private static void orderOfLikeSums() {
        SugarKitchen k = new SugarKitchen();
        for (int i = 0; i < 5; i++) {
            k.batch(i % 2);
        }
        for (int batch : new int[] {3, 4, 0, 2, 1}) {
            k.queue(batch);
        }
        order("as they stand", k, false, 0, 3, 4, 0, 2, 1);
        k.wash(0, 1, 5);
        k.wash(1, 0, 5);
        order("the KIND of the first first", k, false, 5, 3, 1, 4, 0, 2);
        k.wash(0, 1, 4);
        order("less the other way round", k, false, 4, 4, 0, 2, 3, 1);
        k.wash(0, 0, 2);
        order("one more washing, all alike", k, false, 8, 4, 0, 2, 3, 1);
        SugarKitchen three = queued(0, 1, 2);
        three.wash(0, 1, 7);
        three.wash(1, 2, 7);
        order("they part at the second", three, false, 0, 0, 2, 1);
        three.wash(2, 1, 7);
        order("they part at the first", three, false, 0, 1, 0, 2);
    }

    /** "all of the QUEUE, one behind the other, with the least sum": ten, by all KINDS. */
    private static void orderOfTen() {
        SugarKitchen k = queued(0, 1, 2, 3, 4, 5, 0, 1, 2, 3);
        for (int from = 0; from < 6; from++) {
            for (int to = 0; to < 6; to++) {
                k.wash(from, to, 600);
            }
        }
        order("the greatest sum", k, false, 5400, 0, 1, 2, 3, 4, 5, 6, 7, 8, 9);
        order("the greatest sum, nuts last", k, true, 5400, 0, 1, 2, 3, 5, 6, 7, 8, 9, 4);
        int[] ring = {3, 0, 5, 2, 1};
        for (int i = 0; i < 5; i++) {
            k.wash(ring[i], i == 4 ? 4 : ring[i + 1], 0);
            k.wash(ring[i], ring[i], 0);
        }
        order("one way costs nothing", k, true, 0, 3, 9, 0, 6, 5, 2, 8, 1, 7, 4);
        order("one way costs nothing, not told", k, false, 0, 3, 9, 0, 6, 5, 2, 8, 1, 7, 4);
        SugarKitchen nuts = queued(4, 4, 4, 4, 4, 4, 4, 4, 4, 4);
        nuts.wash(4, 4, 600);
        order("ten NUTS", nuts, true, 5400, 0, 1, 2, 3, 4, 5, 6, 7, 8, 9);
    }

    /** What was asked once doesn't stay when the QUEUE or the WASHING is another. */
    private static void orderAfterChanges() {
        SugarKitchen k = queued(0, 4);
        order("at first", k, false, 0, 0, 1);
        order("at first, nuts last", k, true, 0, 0, 1);
        k.wash(0, 4, 5);
        order("other WASHING", k, false, 0, 1, 0);
        order("other WASHING, nuts last", k, true, 5, 0, 1);
        is("27 refused", false, k.wash(0, 4, 601));
        order("a refused wash", k, true, 5, 0, 1);
        k.batch(5);
        k.queue(2);
        order("one more", k, true, 0, 0, 2, 1);
        is("28 refused", NONE, k.queue(2));
        order("a refused one", k, true, 0, 0, 2, 1);
        order("one more", k, false, 0, 0, 2, 1);
        k.wash(0, 5, 7);
        k.wash(5, 0, 7);
        order("dearer, nuts last", k, true, 7, 0, 2, 1);
        k.queue(NONE);
        order("emptied", k, true, 0);
        order("emptied", k, false, 0);
    }

    // ---- Promise 30

    /** "NONE if there is none such." */
    private static void recallNumbers() {
        EDGES.none("30 no such lot", Kitchens::busy, (k, v) -> k.recall(v, 0, 0), -1, 3, 4, 40, 64);
        EDGES.none("30 what", Kitchens::busy, (k, v) -> k.recall(1, v, 0), -1, 3);
        for (int what = 0; what < 3; what++) {
            int of = what;
            int many = new int[] {2, 6, 1}[what];
            EDGES.none("30 i of what " + what, Kitchens::busy, (k, v) -> k.recall(1, of, v), -1,
                    many);
            for (int i = 0; i < 3; i++) {
                is("30 none in a new kitchen", NONE, new SugarKitchen().recall(0, what, i));
            }
        }
    }

    /** "What has some of a lot, rising" */
    private static void recallRising() {
        SugarKitchen k = Kitchens.busy();
        list("batches of lot 0", k, 0, 0, 0, 3, 4, 5, 6, 8, 10, 11);
        list("batches of lot 1", k, 1, 0, 1, 2);
        list("batches of lot 2", k, 2, 0, 9);
        list("batches of the empty lot", k, 3, 0);
        list("pieces of lot 0: cut, or dipped", k, 0, 1, 0, 1, 2, 3, 4, 5, 6);
        list("pieces of lot 1: cut, or dipped", k, 1, 1, 1, 4, 6, 7, 8, 9);
        list("pieces of lot 2", k, 2, 1);
        list("boxes of lot 0", k, 0, 2);
        list("boxes of lot 1", k, 1, 2, 0);
        is("24 one more box", 1, k.pack(4, 120, 0));
        list("boxes of lot 0: by its piece", k, 0, 2, 1);
        list("boxes of lot 1: by its COAT", k, 1, 2, 0, 1);
        is("4 the least of a lot", 1, k.put(7, 2, 1));
        list("batches of lot 2", k, 2, 0, 7, 9);
        is("4 no more of it", NONE, k.put(7, 3, 1));
        list("a refused put", k, 3, 0);
        is("18 a refused dip", NONE, k.dip(3, 9, 1));
        list("a refused dip", k, 2, 1);
    }

    private static void list(String what, SugarKitchen k, int lot, int of, int... want) {
        for (int i = 0; i < want.length; i++) {
            is("30 " + what + ": " + i, want[i], k.recall(lot, of, i));
        }
        is("30 " + what + ": no more", NONE, k.recall(lot, of, want.length));
        is("30 " + what + ": none ahead", NONE, k.recall(lot, of, -1));
    }

    /** The last lot, batch, piece and box there can be. */
    private static void recallTheLast() {
        SugarKitchen k = Kitchens.fortyLots();
        for (int i = 0; i < 40; i++) {
            k.batch(3);
            k.put(i, 39, 10);
        }
        is("30 the first of 40 batches", 0, k.recall(39, 0, 0));
        is("30 the last of 40 batches", 39, k.recall(39, 0, 39));
        is("30 no 41st", NONE, k.recall(39, 0, 40));
        is("30 another lot is in none", NONE, k.recall(38, 0, 0));
        is("30 nor the one at its bit's other end", NONE, k.recall(7, 0, 0));
        SugarKitchen pieces = Kitchens.sixHundredPieces();
        is("30 the last of 600 pieces", 599, pieces.recall(0, 1, 599));
        is("30 no 601st", NONE, pieces.recall(0, 1, 600));
        SugarKitchen boxes = Kitchens.twoHundredBoxes();
        is("30 the last of 200 boxes", 199, boxes.recall(0, 2, 199));
        is("30 no 201st", NONE, boxes.recall(0, 2, 200));
        SugarKitchen high = Kitchens.fortyLots();
        high.batch(3);
        for (int lot : new int[] {31, 32, 33, 39}) {
            high.put(0, lot, 100);
        }
        for (int lot = 0; lot < 40; lot++) {
            boolean in = lot >= 31 && lot <= 33 || lot == 39;
            is("30 lot " + lot + " beyond an int's bits", in ? 0 : NONE, high.recall(lot, 0, 0));
        }
    }

    // ---- Promises 31 and 32

    /** "NONE for others." */
    private static void about() {
        EDGES.range("31 what", Kitchens::busy, 0, 6, SugarKitchen::about);
        int[] want = {4, 12, 10, 1, 3, 3, 3};
        for (int what = 0; what < 7; what++) {
            is("31 what " + what, want[what], Kitchens.busy().about(what));
        }
        is("31 40 lots", 40, Kitchens.fortyLots().about(0));
        is("31 40 batches", 40, Kitchens.fortyBatches().about(1));
        is("31 600 pieces", 600, Kitchens.sixHundredPieces().about(2));
        is("31 200 boxes", 200, Kitchens.twoHundredBoxes().about(3));
        is("31 16 rows", 16, Kitchens.sixteenRows().about(4));
        is("31 10 in the QUEUE", 10, Kitchens.tenInTheQueue().about(5));
        is("31 144 are FIT, more than a CHOICE", 144, Kitchens.fullTrays().about(6));
    }

    /** "NONE if there is none such." */
    private static void left() {
        EDGES.none("32 no such lot", Kitchens::busy, SugarKitchen::left, -1, 4, 40);
        SugarKitchen k = Kitchens.busy();
        is("32 some", 60, k.left(2));
        is("32 nothing", 0, k.left(3));
        k.put(9, 2, 60);
        is("32 nothing more", 0, k.left(2));
        is("32 the last of 40", 1000000, Kitchens.fortyLots().left(39));
        is("32 no 41st", NONE, Kitchens.fortyLots().left(40));
    }
}
