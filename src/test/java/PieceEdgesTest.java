/**
 * Terms III and promises 17 to 23 at their edges: each sentence of the document that names one has
 * a test of its own here, with that sentence above it.
 */
public final class PieceEdgesTest {
    private static final int NONE = SugarKitchen.NONE;
    private static final int MIN = Integer.MIN_VALUE;
    private static final int MAX = Integer.MAX_VALUE;
    private static final int[] NO_PIECE = {-1, 10, 600, MIN, MAX};
    private static final Due DUE = new Due("PieceEdgesTest");
    private static final Edges EDGES = new Edges(DUE);

    public static void main(String[] args) {
        cutNumbers();
        cutAsFarAsItsMassGoes();
        cutAsFarAsThereAreNumbers();
        cutOnlyWhatIsGood();
        dipWeights();
        dipOnlyOnce();
        dipWhereItLies();
        dipOnlyInGoodCoats();
        placesThereAre();
        placesOnePieceEach();
        placesAllTaken();
        placeGoesOn();
        take();
        allow();
        sortsAndFit();
        pieceOfOthers();
        pieceOf();
        at();
        DUE.end();
    }

    private static void is(String what, int want, int got) {
        DUE.is(what, want, got);
    }

    private static void is(String what, boolean want, boolean got) {
        DUE.is(what, want, got);
    }

    // ---- Promise 17

    /** "So many (1 .. 99) pieces of a weight (10 .. 2000)"; "NONE for others." */
    private static void cutNumbers() {
        EDGES.range("17 weight", Kitchens::busy, 10, 2000, (k, v) -> k.cut(0, v, 1));
        EDGES.range("17 many", Kitchens::busy, 1, 99, (k, v) -> k.cut(0, 10, v));
        EDGES.none("17 no such batch", Kitchens::busy, (k, v) -> k.cut(v, 10, 1), -1, 12, 40);
        SugarKitchen k = Kitchens.kitchen();
        is("17 the lightest", 1, k.cut(0, 10, 1));
        is("17 the heaviest", 1, k.cut(1, 2000, 1));
        is("17 the most", 99, k.cut(1, 10, 99));
        is("17 its weight", 10, k.pieceOf(0, 1));
        is("17 its weight", 2000, k.pieceOf(1, 1));
        is("17 what was cut", 2990, k.batchOf(1, 11));
        EDGES.refused("17 a weight too light, of one without MASS", () -> withMass(3, 5),
                q -> q.cut(0, 9, 1));
        EDGES.refused("17 none, of one without MASS", () -> withMass(3, 5), q -> q.cut(0, 10, 0));
    }

    /** One GOOD batch of a KIND with a MASS. */
    private static SugarKitchen withMass(int kind, int mass) {
        SugarKitchen k = Kitchens.oneLot();
        Kitchens.good(k, kind, 0, mass);
        return k;
    }

    /** "as far as its MASS goes [..]: how many" */
    private static void cutAsFarAsItsMassGoes() {
        int[][] rows = {{9, 10, 1, 0}, {10, 10, 1, 1}, {10, 10, 99, 1}, {19, 10, 2, 1},
            {20, 10, 2, 2}, {20, 10, 1, 1}, {1999, 2000, 5, 0}, {2000, 2000, 5, 1},
            {9999, 2000, 99, 4}, {10000, 2000, 99, 5}, {989, 10, 99, 98}, {990, 10, 99, 99},
            {1000, 10, 99, 99}};
        for (int[] r : rows) {
            for (int kind = 3; kind <= 4; kind++) {
                SugarKitchen k = withMass(kind, r[0]);
                String what = "17 " + r[2] + " of " + r[1] + " from " + r[0];
                is(what, r[3], k.cut(0, r[1], r[2]));
                is(what + ": MASS left", r[0] - r[3] * r[1], k.batchOf(0, 1));
                is(what + ": was cut", r[3] * r[1], k.batchOf(0, 11));
                is(what + ": pieces", r[3], k.about(2));
            }
        }
        SugarKitchen k = withMass(3, 25);
        is("17 all it has", 2, k.cut(0, 10, 99));
        is("17 then none", 0, k.cut(0, 10, 99));
        is("17 none is cut", 20, k.batchOf(0, 11));
    }

    /** "and there are numbers left"; "PIECES 0 .. 599" */
    private static void cutAsFarAsThereAreNumbers() {
        SugarKitchen k = Kitchens.kitchen();
        for (int i = 0; i < 6; i++) {
            is("17 99 more", 99, k.cut(i % 2, 10, 99));
        }
        is("17 594", 594, k.about(2));
        is("17 5 more", 5, k.cut(0, 10, 5));
        is("17 the last number, of two", 1, k.cut(1, 10, 2));
        is("17 600", 600, k.about(2));
        is("17 the last", 1, k.pieceOf(599, 0));
        is("17 no 600th", NONE, k.pieceOf(600, 0));
        int mass = k.batchOf(0, 1);
        is("17 no number left", 0, k.cut(0, 10, 1));
        is("17 no number left, and many", 0, k.cut(0, 10, 99));
        is("17 nothing is cut", mass, k.batchOf(0, 1));
        is("17 600 still", 600, k.about(2));
        EDGES.refused("17 without numbers too: too light", Kitchens::sixHundredPieces,
                q -> q.cut(0, 9, 1));
        EDGES.refused("17 without numbers too: no such batch", Kitchens::sixHundredPieces,
                q -> q.cut(3, 10, 1));
        SugarKitchen all = Kitchens.kitchen();
        for (int i = 0; i < 6; i++) {
            all.cut(0, 10, 99);
        }
        is("17 as far as numbers go", 6, all.cut(0, 10, 99));
        all.place(599, 5, 23);
        is("19 the last piece lies", 599, all.at(5, 23));
        is("24 the last piece is packed", 0, all.pack(1, 10, 0));
        is("26 the last piece is in it", 599, all.boxOf(0, 100));
        is("17 a piece in a box has its number still", 0, all.cut(0, 10, 1));
    }

    /** "from a GOOD CENTRE or NUT" */
    private static void cutOnlyWhatIsGood() {
        for (int kind : new int[] {0, 1, 2, 5}) {
            EDGES.refused("17 of KIND " + kind, () -> withMass(kind, 1000), k -> k.cut(0, 10, 1));
        }
        for (int kind = 3; kind <= 4; kind++) {
            int of = kind;
            EDGES.refused("17 not cooked", () -> bad(of, 1), k -> k.cut(0, 10, 1));
            EDGES.refused("17 DOUBTFUL", () -> bad(of, 2), k -> k.cut(0, 10, 1));
            EDGES.refused("17 LOSS too low", () -> bad(of, 3), k -> k.cut(0, 10, 1));
            EDGES.refused("17 LOSS too high", () -> bad(of, 4), k -> k.cut(0, 10, 1));
            EDGES.refused("17 not GRAINED", () -> bad(of, 5), k -> k.cut(0, 10, 1));
            is("17 GOOD without a hand", 1, bad(of, 0).cut(0, 10, 1));
            SugarKitchen k = bad(of, 2);
            k.vouch(0);
            is("17 GOOD by a hand", 1, k.cut(0, 10, 1));
            SugarKitchen now = bad(of, 0);
            now.bounds(of, 901, 901);
            is("17 no longer GOOD", NONE, now.cut(0, 10, 1));
            now.bounds(of, 0, 0);
            is("17 GOOD again", 1, now.cut(0, 10, 1));
        }
    }

    /** One batch of a KIND that isn't GOOD for this reason (by why()). */
    private static SugarKitchen bad(int kind, int reason) {
        SugarKitchen k = Kitchens.oneLot();
        k.grain(MIN, MAX);
        Kitchens.raw(k, kind, 1000, reason != 5 && kind != 5, 90f, 80f);
        if (reason != 1) {
            k.cook(0, reason == 2 ? 3 : 2);
        }
        if (reason == 3 || reason == 4) {
            k.bounds(kind, reason == 3 ? 1 : -5, reason == 3 ? 5 : -1);
        }
        is("13 why " + reason, reason, k.why(0));
        return k;
    }

    // ---- Promise 18

    /** "with so much (1 .. 1000) of a GOOD COAT that has it" */
    private static void dipWeights() {
        EDGES.range("18 weight", Kitchens::busy, 1, 1000, (k, v) -> k.dip(3, 2, v));
        int[][] rows = {{1, 1, 0}, {1, 2, NONE}, {999, 1000, NONE}, {1000, 1000, 0}, {50, 50, 0},
            {50, 51, NONE}};
        for (int[] r : rows) {
            SugarKitchen k = Kitchens.laid(100);
            int coat = Kitchens.good(k, 5, 0, r[0]);
            String what = "18 " + r[1] + " of a COAT of " + r[0];
            is(what, r[2], k.dip(0, coat, r[1]));
            int used = r[2] == NONE ? 0 : r[1];
            is(what + ": MASS left", r[0] - used, k.batchOf(coat, 1));
            is(what + ": was dipped", used, k.batchOf(coat, 12));
            is(what + ": the piece's weight", 100 + used, k.pieceOf(0, 1));
            is(what + ": the piece's COAT", used == 0 ? NONE : coat, k.pieceOf(0, 2));
        }
        EDGES.refused("18 of a COAT that has nothing", () -> {
            SugarKitchen k = Kitchens.laid(100, 100);
            k.dip(0, Kitchens.good(k, 5, 0, 10), 10);
            return k;
        }, k -> k.dip(1, 3, 1));
        SugarKitchen k = Kitchens.kitchen();
        k.cut(0, 2000, 1);
        is("18 the heaviest there is", 1, k.dip(0, 2, 1000));
        is("18 weighs 3000", 3000, k.pieceOf(0, 1));
    }

    /** "Dipped once at most"; "not dipped" */
    private static void dipOnlyOnce() {
        EDGES.refused("18 dipped in TEMPER, again", Kitchens::busy, k -> k.dip(1, 2, 5));
        EDGES.refused("18 dipped not in TEMPER, again", Kitchens::busy, k -> k.dip(2, 2, 5));
        EDGES.refused("18 in another COAT", Kitchens::busy, k -> k.dip(1, 3, 5));
        EDGES.refused("18 dipped and loose, again", Kitchens::busy, k -> k.dip(4, 2, 5));
        EDGES.refused("18 dipped and ALLOWED, again", Kitchens::busy, k -> k.dip(6, 2, 5));
    }

    /** "A piece that is in no box" */
    private static void dipWhereItLies() {
        EDGES.refused("18 in a box", Kitchens::busy, k -> k.dip(7, 2, 5));
        is("18 loose", 1, Kitchens.busy().dip(3, 2, 5));
        SugarKitchen k = Kitchens.busy();
        is("18 on a TRAY", 1, k.dip(0, 2, 5));
        is("18 stays on its TRAY", 0, k.at(0, 0));
        for (int piece : NO_PIECE) {
            EDGES.refused("18 no such piece " + piece, Kitchens::busy, q -> q.dip(piece, 2, 5));
        }
    }

    /** "of a GOOD COAT"; "1 in TEMPER, 0 not. NONE, changing nothing, for others." */
    private static void dipOnlyInGoodCoats() {
        EDGES.none("18 no such COAT", Kitchens::busy, (k, v) -> k.dip(3, v, 5), -1, 12, 40);
        for (int batch : new int[] {0, 1, 4, 5, 6, 7, 8, 10}) {
            EDGES.refused("18 no COAT, " + batch, Kitchens::busy, k -> k.dip(3, batch, 5));
        }
        EDGES.refused("18 not cooked", Kitchens::busy, k -> k.dip(3, 9, 5));
        EDGES.refused("18 DOUBTFUL, in TEMPER", Kitchens::busy, k -> k.dip(3, 11, 5));
        EDGES.refused("18 LOSS too low", () -> lossOfCoats(901, 999), k -> k.dip(3, 3, 5));
        EDGES.refused("18 LOSS too high", () -> lossOfCoats(-9, -1), k -> k.dip(3, 3, 5));
        is("18 vouched for", 1, lossOfCoats(901, 999).dip(3, 2, 5));
        int[] degrees = {450, 450, 270, 270, 310, 310, 320, 290, 289};
        int[] inTemper = {0, 0, 0, 0, 0, 1, 1, 1, 0};
        for (int ticks = 0; ticks <= degrees.length; ticks++) {
            SugarKitchen k = Kitchens.laid(100);
            int coat = Kitchens.good(k, 5, 0, 100);
            for (int i = 0; i < ticks; i++) {
                k.heat(coat, degrees[i]);
            }
            int want = ticks == 0 ? 0 : inTemper[ticks - 1];
            is("18 in TEMPER behind " + ticks + " ticks", want, k.dip(0, coat, 5));
            is("22 in TEMPER behind " + ticks + " ticks", want, k.pieceOf(0, 3));
            is("22 FIT behind " + ticks + " ticks", want, k.pieceOf(0, 8));
        }
    }

    private static SugarKitchen lossOfCoats(int low, int high) {
        SugarKitchen k = Kitchens.busy();
        k.bounds(5, low, high);
        return k;
    }

    // ---- Promises 19 and 20

    /** "a TRAY (0 .. 5, of 24 places: one piece each)" */
    private static void placesThereAre() {
        EDGES.ask("19 TRAY", Kitchens::busy, 0, 5, (k, v) -> k.place(3, v, 5));
        EDGES.ask("19 place", Kitchens::busy, 0, 23, (k, v) -> k.place(3, 2, v));
        // A place beside a TRAY is none on the next one.
        EDGES.denied("19 TRAY 1, place -1", Kitchens::busy, k -> k.place(3, 1, -1));
        EDGES.denied("19 TRAY -1, place 24", Kitchens::busy, k -> k.place(3, -1, 24));
        EDGES.denied("19 TRAY 6, place -24", Kitchens::busy, k -> k.place(3, 6, -24));
        EDGES.denied("19 TRAY 0, place 47", Kitchens::busy, k -> k.place(3, 0, 47));
        for (int piece : NO_PIECE) {
            EDGES.denied("19 no such piece " + piece, Kitchens::busy, k -> k.place(piece, 3, 3));
        }
        EDGES.denied("19 in a box", Kitchens::busy, k -> k.place(7, 3, 3));
    }

    /** "goes to an empty place" */
    private static void placesOnePieceEach() {
        EDGES.denied("19 taken by another", Kitchens::busy, k -> k.place(3, 0, 0));
        EDGES.denied("19 taken by another, the last place", Kitchens::busy, k -> k.place(3, 5, 23));
        EDGES.denied("19 taken by one that isn't FIT", Kitchens::busy, k -> k.place(3, 0, 2));
        EDGES.denied("19 from one taken place to another", Kitchens::busy, k -> k.place(0, 0, 1));
        EDGES.denied("19 taken by itself", Kitchens::busy, k -> k.place(0, 0, 0));
    }

    private static void placesAllTaken() {
        SugarKitchen k = Kitchens.fullTrays();
        for (int spot = 0; spot < 144; spot++) {
            is("19 there", spot, k.at(spot / 24, spot % 24));
            is("19 taken", false, k.place(144, spot / 24, spot % 24));
            is("19 nor by one from a TRAY", false, k.place(0, spot / 24, spot % 24));
        }
        is("31 all are FIT", 144, k.about(6));
        is("22 the 145th is loose", 0, k.pieceOf(144, 5));
        EDGES.denied("19 full: the first place", Kitchens::fullTrays, q -> q.place(144, 0, 0));
        EDGES.denied("19 full: the last place", Kitchens::fullTrays, q -> q.place(144, 5, 23));
        is("20 one is taken", true, k.take(143));
        is("19 its place is empty", true, k.place(144, 5, 23));
        is("19 and taken again", false, k.place(143, 5, 23));
    }

    /** A piece on a TRAY goes to another place, and leaves its own. */
    private static void placeGoesOn() {
        SugarKitchen k = Kitchens.busy();
        is("19 goes to the last place but one", true, k.place(0, 5, 22));
        is("19 is there", 0, k.at(5, 22));
        is("19 is there alone", NONE, k.at(0, 0));
        is("22 is there", 24 * 5 + 22, k.pieceOf(0, 6));
        is("19 its old place is empty", true, k.place(3, 0, 0));
        is("31 FIT: both, the dipped one and the ALLOWED one", 4, k.about(6));
    }

    /** "A piece on a TRAY is loose: true. False for others." */
    private static void take() {
        for (int piece : NO_PIECE) {
            EDGES.denied("20 no such piece " + piece, Kitchens::busy, k -> k.take(piece));
        }
        EDGES.denied("20 loose", Kitchens::busy, k -> k.take(3));
        EDGES.denied("20 in a box", Kitchens::busy, k -> k.take(7));
        EDGES.denied("20 taken already", () -> {
            SugarKitchen k = Kitchens.busy();
            k.take(0);
            return k;
        }, k -> k.take(0));
        SugarKitchen k = Kitchens.busy();
        is("20 at the first place", true, k.take(0));
        is("20 at the last place", true, k.take(6));
        is("23 the first is empty", NONE, k.at(0, 0));
        is("23 the last is empty", NONE, k.at(5, 23));
        is("22 loose", 0, k.pieceOf(6, 5));
        is("22 nowhere", NONE, k.pieceOf(6, 6));
        is("22 not FIT", 0, k.pieceOf(6, 8));
        is("22 ALLOWED still", 1, k.pieceOf(6, 4));
    }

    // ---- Promise 21

    /** "a piece that was not dipped in TEMPER: true. False: no such piece, or it isn't one." */
    private static void allow() {
        for (int piece : NO_PIECE) {
            EDGES.denied("21 no such piece " + piece, Kitchens::busy, k -> k.allow(piece));
        }
        EDGES.denied("21 not dipped, on a TRAY", Kitchens::busy, k -> k.allow(0));
        EDGES.denied("21 not dipped, loose", Kitchens::busy, k -> k.allow(3));
        EDGES.denied("21 not dipped, in a box", Kitchens::busy, k -> k.allow(7));
        EDGES.denied("21 dipped in TEMPER, on a TRAY", Kitchens::busy, k -> k.allow(1));
        EDGES.denied("21 dipped in TEMPER, loose", Kitchens::busy, k -> k.allow(4));
        SugarKitchen k = Kitchens.busy();
        is("21 not in TEMPER", true, k.allow(2));
        is("21 again", true, k.allow(2));
        is("21 ALLOWED", 1, k.pieceOf(2, 4));
        is("21 FIT", 1, k.pieceOf(2, 8));
        is("21 not in TEMPER for all that", 0, k.pieceOf(2, 3));
        is("21 loose and not in TEMPER", 0, k.dip(3, 3, 5));
        is("21 loose: allowed", true, k.allow(3));
        is("21 loose: not FIT", 0, k.pieceOf(3, 8));
        k.pack(8, 290, 0);
        is("21 the ALLOWED one is in a box", 2, k.pieceOf(6, 5));
        is("21 in a box", true, k.allow(6));
        is("21 in a box: not FIT", 0, k.pieceOf(6, 8));
    }

    // ---- Promises 22 and 23

    /** "0 of a CENTRE, 1 of a NUT, 2 more if it is dipped"; "FIT: on a TRAY, .." */
    private static void sortsAndFit() {
        int[][] pieces = {{0, 0, 1}, {1, 2, 1}, {2, 2, 0}, {3, 0, 0}, {4, 2, 0}, {6, 3, 1},
            {7, 1, 0}, {8, 1, 0}};
        SugarKitchen k = Kitchens.busy();
        for (int[] p : pieces) {
            is("22 SORT of " + p[0], p[1], k.pieceOf(p[0], 7));
            is("22 FIT " + p[0], p[2], k.pieceOf(p[0], 8));
        }
        is("31 FIT", 3, k.about(6));
        k.dip(8, 2, 1);
        is("22 SORT of a dipped NUT", 3, k.pieceOf(8, 7));
    }

    /** "NONE for others." */
    private static void pieceOfOthers() {
        EDGES.none("22 no such piece", Kitchens::busy, (k, v) -> k.pieceOf(v, 0), -1, 10, 600);
        EDGES.none("22 what", Kitchens::busy, (k, v) -> k.pieceOf(0, v), -1, 9, 10);
        for (int what = 0; what < 9; what++) {
            is("22 none in a new kitchen", NONE, new SugarKitchen().pieceOf(0, what));
        }
    }

    /** "its COAT (NONE)", "(1, 0; NONE undipped)", "24 * TRAY + place, or the box (NONE loose)" */
    private static void pieceOf() {
        int[][] want = {{0, 0, 100, NONE, NONE, 0, 1, 0, 0, 1}, {1, 0, 120, 2, 1, 0, 1, 1, 2, 1},
            {2, 0, 130, 3, 0, 0, 1, 2, 2, 0}, {3, 0, 100, NONE, NONE, 0, 0, NONE, 0, 0},
            {4, 0, 105, 2, 1, 0, 0, NONE, 2, 0}, {6, 1, 290, 3, 0, 1, 1, 143, 3, 1},
            {7, 1, 250, NONE, NONE, 0, 2, 0, 1, 0}, {9, 1, 250, NONE, NONE, 0, 0, NONE, 1, 0}};
        SugarKitchen k = Kitchens.busy();
        for (int[] row : want) {
            for (int what = 0; what < 9; what++) {
                is("22 " + row[0] + ", " + what, row[what + 1], k.pieceOf(row[0], what));
            }
        }
        SugarKitchen last = Kitchens.twoHundredBoxes();
        is("22 in the last box", 2, last.pieceOf(199, 5));
        is("22 the last box", 199, last.pieceOf(199, 6));
        is("22 of the last batch", 39, pieceOfTheLastBatch().pieceOf(0, 0));
        is("22 of the last COAT", 38, pieceOfTheLastBatch().pieceOf(0, 2));
    }

    private static SugarKitchen pieceOfTheLastBatch() {
        SugarKitchen k = Kitchens.oneLot();
        for (int i = 0; i < 40; i++) {
            Kitchens.good(k, i == 39 ? 4 : 5, 0, 100);
        }
        k.cut(39, 10, 1);
        k.dip(0, 38, 5);
        return k;
    }

    /** "NONE if there is none." */
    private static void at() {
        EDGES.none("23 TRAY", Kitchens::busy, (k, v) -> k.at(v, 0), -1, 6);
        EDGES.none("23 place", Kitchens::busy, (k, v) -> k.at(0, v), -1, 24, 3, 143);
        SugarKitchen k = Kitchens.fullTrays();
        is("23 the first", 0, k.at(0, 0));
        is("23 the last of a TRAY", 23, k.at(0, 23));
        is("23 the first of the next", 24, k.at(1, 0));
        is("23 the last", 143, k.at(5, 23));
        is("23 not beside: -1, 24", NONE, k.at(-1, 24));
        is("23 not beside: 1, -1", NONE, k.at(1, -1));
        is("23 not beside: 6, -1", NONE, k.at(6, -1));
        is("23 not beside: 0, 24", NONE, k.at(0, 24));
        is("23 packed", 0, k.pack(1, 10, 0));
        is("23 empty behind that", NONE, k.at(0, 0));
    }
}
