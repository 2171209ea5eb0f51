import java.util.Arrays;

/**
 * A confectioner's kitchen: lots go into batches, batches are cooked, cut and dipped into pieces,
 * pieces lie on trays and are packed into boxes, and one kettle is washed as little as may be.
 */
public final class SugarKitchen {
    public static final int NONE = -1;

    private static final int LOTS = 40;
    private static final int BATCHES = 40;
    private static final int PIECES = 600;
    private static final int BOXES = 200;
    private static final int TRAYS = 6;
    private static final int PLACES = 24;
    private static final int TICKS = 60;
    private static final int QUEUED = 10;
    private static final int TO_CHOOSE = 40;
    private static final int TO_PART = 14;

    private static final int KINDS = 6;
    private static final int FUDGE = 1;
    private static final int CLEAR = 2;
    private static final int CENTRE = 3;
    private static final int NUT = 4;
    private static final int COAT = 5;

    private static final int GREATEST_LOT = 1000000;
    private static final int GREATEST_LOSS = 900;
    private static final int GREATEST_WEIGHT = 8000;
    private static final int GREATEST_OVER = 500;
    private static final int GREATEST_INT = 0x7fffffff;
    private static final int LEAST_INT = -GREATEST_INT - 1;
    private static final int NO_TOP = NONE - 1000000;
    private static final int IN_TEMPER = 3;

    private static final int LOOSE = 0;
    private static final int ON_TRAY = 1;
    private static final int IN_BOX = 2;

    private final Lot[] lots = new Lot[LOTS];
    private int lotCount;
    private final Batch[] batches = new Batch[BATCHES];
    private int batchCount;
    private final Piece[] pieces = new Piece[PIECES];
    private int pieceCount;
    private final Box[] boxes = new Box[BOXES];
    private int boxCount;
    private final int[] trays = new int[TRAYS * PLACES];
    private final int[] trialTrays = new int[TRAYS * PLACES];
    private final Rules rules = new Rules();
    private final Tempering tempering = new Tempering();
    private final Kettle kettle = new Kettle();
    private final Choice choice = new Choice();
    private final Parting parting = new Parting();

    public SugarKitchen() {
        Arrays.fill(trays, NONE);
    }

    // ---- lots and batches

    public int lot(int amount, int warnings) {
        if (!within(amount, 0, GREATEST_LOT) || !within(warnings, 0, 255) || lotCount >= LOTS) {
            return NONE;
        }
        lots[lotCount] = new Lot(amount, warnings);
        lotCount++;
        return lotCount - 1;
    }

    public int batch(int kind) {
        if (!isKind(kind) || batchCount >= BATCHES) {
            return NONE;
        }
        batches[batchCount] = new Batch(kind);
        batchCount++;
        return batchCount - 1;
    }

    public int put(int batch, int lot, int amount) {
        Batch into = findRaw(batch);
        Lot from = findLot(lot);
        if (into == null || from == null || !within(amount, 1, from.left)) {
            return NONE;
        }
        from.left -= amount;
        into.mass += amount;
        into.putIn += amount;
        into.lots |= 1L << lot;
        return into.mass;
    }

    public boolean row(int batch, int which, int length) {
        Batch of = findRaw(batch);
        if (of == null || !within(length, NONE, TICKS)) {
            return false;
        }
        // A MISSING row and one of no places answer alike everywhere, so both are kept as length 0.
        int places = Math.max(length, 0);
        if (which == 0) {
            of.rows.renewDegrees(places);
            return true;
        }
        if (which == 1) {
            of.rows.renewStirring(places);
            return true;
        }
        return false;
    }

    public boolean tick(int batch, int place, int bits) {
        Batch of = findRaw(batch);
        if (of == null || !of.rows.hasDegree(place)) {
            return false;
        }
        of.rows.floatBits[place] = bits;
        return true;
    }

    public boolean stir(int batch, int place, boolean yes) {
        Batch of = findRaw(batch);
        if (of == null || !of.rows.hasStirring(place)) {
            return false;
        }
        of.rows.stirred[place] = yes;
        return true;
    }

    // ---- cooking

    public int table(int degree, int loss) {
        return rules.addLoss(degree, loss);
    }

    public boolean grain(int low, int high) {
        rules.grainLow = low;
        rules.grainHigh = high;
        return true;
    }

    public boolean bounds(int kind, int low, int high) {
        if (!isKind(kind)) {
            return false;
        }
        rules.leastLoss[kind] = low;
        rules.mostLoss[kind] = high;
        return true;
    }

    public int cook(int batch, int ticks) {
        Batch of = findRaw(batch);
        if (of == null || !within(ticks, 1, TICKS) || of.mass == 0) {
            return NONE;
        }
        of.cookOver(ticks, rules);
        return of.mass;
    }

    public boolean vouch(int batch) {
        Batch of = findBatch(batch);
        if (of == null || !of.cooked) {
            return false;
        }
        of.vouched = true;
        return true;
    }

    public int why(int batch) {
        Batch of = findBatch(batch);
        return of == null ? NONE : of.fault(rules);
    }

    public int batchOf(int batch, int what) {
        Batch of = findBatch(batch);
        return of == null ? NONE : of.tell(what);
    }

    // ---- tempering

    public boolean temper(int d1, int d2, int d3, int d4, int d5, int n) {
        boolean inOrder = d2 < d3 && d3 <= d4 && d4 < d1 && d5 <= d3;
        if (!inOrder || !within(n, 1, 20)) {
            return false;
        }
        if (tempering.change(d1, d2, d3, d4, d5, n)) {
            restartCoats();
        }
        return true;
    }

    public int heat(int batch, int degree) {
        Batch of = findBatch(batch);
        if (of == null || of.kind != COAT || !of.cooked) {
            return NONE;
        }
        tempering.heatOneTick(of, degree);
        return of.phase;
    }

    // ---- pieces

    public int cut(int batch, int weight, int many) {
        Batch of = findGood(batch);
        if (of == null || !isCut(of.kind) || !within(weight, 10, 2000) || !within(many, 1, 99)) {
            return NONE;
        }
        int made = 0;
        while (made < many && of.mass >= weight && pieceCount < PIECES) {
            pieces[pieceCount] = new Piece(batch, of, weight);
            pieceCount++;
            of.mass -= weight;
            of.cutAway += weight;
            made++;
        }
        return made;
    }

    public int dip(int piece, int coat, int weight) {
        Piece of = findUnboxed(piece);
        Batch with = findGood(coat);
        if (of == null || with == null || of.coat != NONE || with.kind != COAT) {
            return NONE;
        }
        if (!within(weight, 1, 1000) || with.mass < weight) {
            return NONE;
        }
        with.mass -= weight;
        with.dippedAway += weight;
        of.weight += weight;
        of.coat = coat;
        of.lots |= with.lots;
        of.tempered = with.phase == IN_TEMPER;
        return of.tempered ? 1 : 0;
    }

    public boolean place(int piece, int tray, int place) {
        Piece of = findUnboxed(piece);
        int spot = spotOf(tray, place);
        if (of == null || spot == NONE || trays[spot] != NONE) {
            return false;
        }
        liftFromTray(of);
        trays[spot] = piece;
        of.where = ON_TRAY;
        of.there = spot;
        return true;
    }

    public boolean take(int piece) {
        Piece of = findPiece(piece);
        if (of == null || of.where != ON_TRAY) {
            return false;
        }
        liftFromTray(of);
        return true;
    }

    public boolean allow(int piece) {
        Piece of = findPiece(piece);
        if (of == null || of.coat == NONE || of.tempered) {
            return false;
        }
        of.allowed = true;
        return true;
    }

    public int pieceOf(int piece, int what) {
        Piece of = findPiece(piece);
        return of == null ? NONE : of.tell(what);
    }

    public int at(int tray, int place) {
        int spot = spotOf(tray, place);
        return spot == NONE ? NONE : trays[spot];
    }

    // ---- boxes

    public int pack(int sorts, int weight, int over) {
        if (!canBeAsked(sorts, weight, over) || boxCount >= BOXES) {
            return NONE;
        }
        gather(trays, sorts);
        int sum = choice.choose(weight, over);
        if (sum == NONE) {
            return NONE;
        }
        Box box = new Box(weight, sum, choice.countChosen());
        for (int i = 0; i < choice.many; i++) {
            if (choice.chosen[i]) {
                moveToBox(choice.spots[i], box);
            }
        }
        box.warnings = warningsOf(box.lots);
        boxes[boxCount] = box;
        boxCount++;
        return boxCount - 1;
    }

    public int would(int sorts, int weight, int over, int what) {
        if (!canBeAsked(sorts, weight, over)) {
            return NONE;
        }
        gather(trays, sorts);
        switch (what) {
            case 0:
                int sum = choice.choose(weight, over);
                return sum == NONE ? NONE : sum - weight;
            case 1:
                return choice.choose(weight, over) == NONE ? NONE : choice.countChosen();
            case 2:
                return countFull(sorts, weight, over);
            case 3:
                return parting.mostBoxes(choice, weight, over);
            case 4:
                return choice.many;
            default:
                return NONE;
        }
    }

    public int boxOf(int box, int what) {
        Box of = findBox(box);
        return of == null ? NONE : of.tell(what);
    }

    // ---- the kettle

    public boolean wash(int from, int to, int minutes) {
        if (!isKind(from) || !isKind(to) || !within(minutes, 0, 600)) {
            return false;
        }
        kettle.setWashing(from, to, minutes);
        return true;
    }

    public int queue(int batch) {
        if (batch == NONE) {
            kettle.empty();
            return 0;
        }
        Batch of = findBatch(batch);
        return of == null ? NONE : kettle.add(batch, of.kind);
    }

    public int order(boolean nutsLast, int i) {
        kettle.findOrder(nutsLast);
        if (i == NONE) {
            return kettle.orderMinutes;
        }
        return within(i, 0, kettle.many - 1) ? kettle.ordered[i] : NONE;
    }

    // ---- looking back

    public int recall(int lot, int what, int i) {
        if (findLot(lot) == null || !within(what, 0, 2)) {
            return NONE;
        }
        int end = what == 0 ? batchCount : what == 1 ? pieceCount : boxCount;
        int seen = 0;
        for (int number = 0; number < end; number++) {
            if ((lotsIn(what, number) >> lot & 1) != 0) {
                if (seen == i) {
                    return number;
                }
                seen++;
            }
        }
        return NONE;
    }

    public int about(int what) {
        switch (what) {
            case 0:
                return lotCount;
            case 1:
                return batchCount;
            case 2:
                return pieceCount;
            case 3:
                return boxCount;
            case 4:
                return rules.losses;
            case 5:
                return kettle.many;
            case 6:
                return countFit();
            default:
                return NONE;
        }
    }

    public int left(int lot) {
        Lot of = findLot(lot);
        return of == null ? NONE : of.left;
    }

    // ---- what the calls share

    private static boolean within(int value, int low, int high) {
        return value >= low && value <= high;
    }

    private static boolean isKind(int kind) {
        return within(kind, 0, KINDS - 1);
    }

    private static boolean isCut(int kind) {
        return kind == CENTRE || kind == NUT;
    }

    private static boolean canBeAsked(int sorts, int weight, int over) {
        return within(sorts, 1, 15) && within(weight, 1, GREATEST_WEIGHT)
                && within(over, 0, GREATEST_OVER);
    }

    private static int spotOf(int tray, int place) {
        boolean there = within(tray, 0, TRAYS - 1) && within(place, 0, PLACES - 1);
        return there ? tray * PLACES + place : NONE;
    }

    private Lot findLot(int number) {
        return within(number, 0, lotCount - 1) ? lots[number] : null;
    }

    private Batch findBatch(int number) {
        return within(number, 0, batchCount - 1) ? batches[number] : null;
    }

    private Batch findRaw(int number) {
        Batch of = findBatch(number);
        return of == null || of.cooked ? null : of;
    }

    private Batch findGood(int number) {
        Batch of = findBatch(number);
        return of == null || of.fault(rules) != 0 ? null : of;
    }

    private Piece findPiece(int number) {
        return within(number, 0, pieceCount - 1) ? pieces[number] : null;
    }

    private Piece findUnboxed(int number) {
        Piece of = findPiece(number);
        return of == null || of.where == IN_BOX ? null : of;
    }

    private Box findBox(int number) {
        return within(number, 0, boxCount - 1) ? boxes[number] : null;
    }

    private void restartCoats() {
        for (int i = 0; i < batchCount; i++) {
            Batch of = findBatch(i);
            if (of != null) {
                of.phase = 0;
                of.count = 0;
            }
        }
    }

    private void liftFromTray(Piece piece) {
        if (piece.where == ON_TRAY && within(piece.there, 0, trays.length - 1)) {
            trays[piece.there] = NONE;
            piece.where = LOOSE;
            piece.there = NONE;
        }
    }

    /** Only here does the next box's number, boxCount, get into a piece. */
    private void moveToBox(int spot, Box box) {
        int number = within(spot, 0, trays.length - 1) ? trays[spot] : NONE;
        Piece of = findPiece(number);
        if (of == null) {
            return;
        }
        liftFromTray(of);
        of.where = IN_BOX;
        of.there = boxCount;
        box.add(number, of.lots);
    }

    private void gather(int[] from, int sorts) {
        choice.many = 0;
        for (int spot = 0; spot < from.length && choice.many < TO_CHOOSE; spot++) {
            Piece of = findPiece(from[spot]);
            if (of != null && of.isFit() && (sorts >> of.sort() & 1) != 0) {
                choice.add(spot, of.weight);
            }
        }
    }

    /** Packs in thought, on other trays, since each box lets further pieces into the CHOICE. */
    private int countFull(int sorts, int weight, int over) {
        System.arraycopy(trays, 0, trialTrays, 0, trays.length);
        for (int full = 0; full < trialTrays.length; full++) {
            gather(trialTrays, sorts);
            if (choice.choose(weight, over) == NONE) {
                return full;
            }
            for (int i = 0; i < choice.many; i++) {
                if (choice.chosen[i]) {
                    trialTrays[choice.spots[i]] = NONE;
                }
            }
        }
        return trialTrays.length;
    }

    private int warningsOf(long lotsOfBox) {
        int all = 0;
        for (int i = 0; i < lotCount; i++) {
            Lot of = findLot(i);
            if (of != null && (lotsOfBox >> i & 1) != 0) {
                all |= of.warnings;
            }
        }
        return all;
    }

    private long lotsIn(int what, int number) {
        if (what == 0) {
            Batch of = findBatch(number);
            return of == null ? 0 : of.lots;
        }
        if (what == 1) {
            Piece of = findPiece(number);
            return of == null ? 0 : of.lots;
        }
        Box of = findBox(number);
        return of == null ? 0 : of.lots;
    }

    private int countFit() {
        int fit = 0;
        for (int spot = 0; spot < trays.length; spot++) {
            Piece of = findPiece(trays[spot]);
            if (of != null && of.isFit()) {
                fit++;
            }
        }
        return fit;
    }

    // ---- what the kitchen is made of

    static final class Lot {
        int left;
        final int warnings;

        Lot(int amount, int warnings) {
            this.left = amount;
            this.warnings = warnings;
        }
    }

    /** What has been told for all batches: the TABLE, GRAIN and the BOUNDS. */
    static final class Rules {
        private static final int MOST_ROWS = 16;

        private final int[] fromDegree = new int[MOST_ROWS];
        private final int[] lossThere = new int[MOST_ROWS];
        int losses;
        int grainLow = 0;
        int grainHigh = -1;
        final int[] leastLoss = new int[KINDS];
        final int[] mostLoss = new int[KINDS];

        Rules() {
            Arrays.fill(mostLoss, GREATEST_LOSS);
        }

        int addLoss(int degree, int loss) {
            boolean rising = losses == 0 || fromDegree[losses - 1] < degree;
            if (losses >= MOST_ROWS || !rising || !within(loss, 0, GREATEST_LOSS)) {
                return NONE;
            }
            fromDegree[losses] = degree;
            lossThere[losses] = loss;
            losses++;
            return losses;
        }

        int lossAt(int top) {
            int loss = 0;
            for (int i = 0; i < losses && fromDegree[i] <= top; i++) {
                loss = lossThere[i];
            }
            return loss;
        }

        boolean isGrain(int degree) {
            return within(degree, grainLow, grainHigh);
        }
    }

    /** A batch's THERMOMETER row and STIRRING row. */
    static final class Rows {
        private static final int INFINITE = 0x7f800000;

        final int[] floatBits = new int[TICKS];
        final boolean[] stirred = new boolean[TICKS];
        int degrees;
        private int stirrings;

        void renewDegrees(int length) {
            degrees = length;
            Arrays.fill(floatBits, 0);
        }

        void renewStirring(int length) {
            stirrings = length;
            for (int i = 0; i < stirred.length; i++) {
                stirred[i] = false;
            }
        }

        boolean hasDegree(int place) {
            return within(place, 0, degrees - 1);
        }

        boolean hasStirring(int place) {
            return within(place, 0, stirrings - 1);
        }

        boolean wasStirred(int place) {
            return hasStirring(place) && stirred[place];
        }

        boolean isNumber(int place) {
            return hasDegree(place) && (floatBits[place] & 0x7fffffff) <= INFINITE;
        }

        int degreeAt(int place) {
            return hasDegree(place) ? tenfold(floatBits[place]) : 0;
        }

        /**
         * The library's way from bits to a float is not ours to use, so the float is made from its
         * parts. The product is a float's, rounded as such, before it is cut.
         */
        private static int tenfold(int bits) {
            int power = (bits >> 23 & 0xff) - 150;
            int digits = bits & 0x7fffff | 0x800000;
            if (power < -30) {
                return 0;
            }
            if (power > 7) {
                return bits < 0 ? LEAST_INT : GREATEST_INT;
            }
            float size = power >= 0
                    ? (float) (digits << power)
                    : (float) digits / (float) (1 << -power);
            return (int) ((bits < 0 ? -10f : 10f) * size);
        }
    }

    static final class Batch {
        final int kind;
        final Rows rows = new Rows();
        int mass;
        int putIn;
        long lots;
        boolean cooked;
        boolean vouched;
        private int lost;
        private int loss;
        private int top = NO_TOP;
        private int missingAt = NONE;
        private int grainedAt = NONE;
        int phase;
        int count;
        int cutAway;
        int dippedAway;

        Batch(int kind) {
            this.kind = kind;
        }

        void cookOver(int ticks, Rules rules) {
            cooked = true;
            int end = Math.min(ticks, rows.degrees);
            if (end < ticks) {
                missingAt = end;
            }
            int topAt = findTop(end);
            if (topAt != NONE) {
                top = rows.degreeAt(topAt);
                loss = rules.lossAt(top);
                grainedAt = findGrained(topAt + 1, end, rules);
            }
            lost = (int) ((long) mass * loss / 1000);
            mass -= lost;
        }

        private int findTop(int end) {
            int topAt = NONE;
            int highest = 0;
            for (int i = 0; i < end; i++) {
                if (rows.isNumber(i)) {
                    int degree = rows.degreeAt(i);
                    if (topAt == NONE || degree > highest) {
                        topAt = i;
                        highest = degree;
                    }
                }
            }
            return topAt;
        }

        private int findGrained(int from, int end, Rules rules) {
            for (int i = from; i < end; i++) {
                if (rows.wasStirred(i) && rows.isNumber(i) && rules.isGrain(rows.degreeAt(i))) {
                    return i;
                }
            }
            return NONE;
        }

        /** The BOUNDS are those of now, not those of the time of cooking. */
        int fault(Rules rules) {
            if (!cooked) {
                return 1;
            }
            if (vouched) {
                return 0;
            }
            if (missingAt != NONE) {
                return 2;
            }
            if (loss < rules.leastLoss[kind]) {
                return 3;
            }
            if (loss > rules.mostLoss[kind]) {
                return 4;
            }
            boolean grained = grainedAt != NONE;
            if (!grained && (kind == FUDGE || isCut(kind))) {
                return 5;
            }
            return grained && kind == CLEAR ? 6 : 0;
        }

        int tell(int what) {
            switch (what) {
                case 0:
                    return kind;
                case 1:
                    return mass;
                case 2:
                    return putIn;
                case 3:
                    return lost;
                case 4:
                    return loss;
                case 5:
                    return top;
                case 6:
                    return grainedAt != NONE ? 1 : 0;
                case 7:
                    return missingAt != NONE ? missingAt : grainedAt;
                case 8:
                    return vouched ? 1 : 0;
                case 9:
                    return phase;
                case 10:
                    return count;
                case 11:
                    return cutAway;
                case 12:
                    return dippedAway;
                default:
                    return NONE;
            }
        }
    }

    /** The degrees D1 to D5 and N of the TEMPER. */
    static final class Tempering {
        private int melted = 450;
        private int cooled = 270;
        private int warmed = 310;
        private int tooWarm = 320;
        private int leastWarm = 290;
        private int ticks = 2;

        /** Whether it is another TEMPER: only such a one sets the COATS back. */
        boolean change(int d1, int d2, int d3, int d4, int d5, int n) {
            boolean likeDegrees = d1 == melted && d2 == cooled && d3 == warmed && d4 == tooWarm
                    && d5 == leastWarm;
            if (likeDegrees && n == ticks) {
                return false;
            }
            melted = d1;
            cooled = d2;
            warmed = d3;
            tooWarm = d4;
            leastWarm = d5;
            ticks = n;
            return true;
        }

        void heatOneTick(Batch coat, int degree) {
            if (isSpoilt(coat.phase, degree)) {
                coat.phase = 0;
                coat.count = 0;
            }
            if (coat.phase == IN_TEMPER) {
                return;
            }
            coat.count = counts(coat.phase, degree) ? coat.count + 1 : 0;
            if (coat.count >= ticks) {
                coat.phase++;
                coat.count = 0;
            }
        }

        private boolean isSpoilt(int phase, int degree) {
            boolean tooHot = phase >= 2 && degree > tooWarm;
            return tooHot || phase == IN_TEMPER && degree < leastWarm;
        }

        private boolean counts(int phase, int degree) {
            if (phase == 0) {
                return degree >= melted;
            }
            return phase == 1 ? degree <= cooled : degree >= warmed;
        }
    }

    static final class Piece {
        private final int batch;
        private final boolean nut;
        int weight;
        long lots;
        int coat = NONE;
        boolean tempered;
        boolean allowed;
        int where = LOOSE;
        int there = NONE;

        Piece(int batch, Batch from, int weight) {
            this.batch = batch;
            this.nut = from.kind == NUT;
            this.weight = weight;
            this.lots = from.lots;
        }

        int sort() {
            return (nut ? 1 : 0) + (coat != NONE ? 2 : 0);
        }

        boolean isFit() {
            return where == ON_TRAY && (coat == NONE || tempered || allowed);
        }

        int tell(int what) {
            switch (what) {
                case 0:
                    return batch;
                case 1:
                    return weight;
                case 2:
                    return coat;
                case 3:
                    return coat == NONE ? NONE : tempered ? 1 : 0;
                case 4:
                    return allowed ? 1 : 0;
                case 5:
                    return where;
                case 6:
                    return there;
                case 7:
                    return sort();
                case 8:
                    return isFit() ? 1 : 0;
                default:
                    return NONE;
            }
        }
    }

    static final class Box {
        private final int told;
        private final int weight;
        private final int[] numbers;
        private int many;
        long lots;
        int warnings;

        /** The kitchen knows how many pieces come, so that no place is made in vain. */
        Box(int told, int weight, int many) {
            this.told = told;
            this.weight = weight;
            this.numbers = new int[Math.max(many, 0)];
        }

        void add(int piece, long lotsOfPiece) {
            if (many >= numbers.length) {
                return;
            }
            int i = many;
            while (i > 0 && numbers[i - 1] > piece) {
                numbers[i] = numbers[i - 1];
                i--;
            }
            numbers[i] = piece;
            many++;
            lots |= lotsOfPiece;
        }

        int tell(int what) {
            if (within(what, 100, 199)) {
                return what - 100 < many ? numbers[what - 100] : NONE;
            }
            if (what >= 200) {
                return lotAt(what - 200);
            }
            switch (what) {
                case 0:
                    return many;
                case 1:
                    return weight;
                case 2:
                    return told;
                case 3:
                    return warnings;
                case 4:
                    return Long.bitCount(lots);
                default:
                    return NONE;
            }
        }

        private int lotAt(int i) {
            int seen = 0;
            for (int lot = 0; lot < LOTS; lot++) {
                if ((lots >> lot & 1) != 0) {
                    if (seen == i) {
                        return lot;
                    }
                    seen++;
                }
            }
            return NONE;
        }
    }

    /** The CHOICE, and which of it come into a box. */
    static final class Choice {
        private static final int WORDS = (GREATEST_WEIGHT + GREATEST_OVER) / 64 + 1;

        final int[] spots = new int[TO_CHOOSE];
        final int[] weights = new int[TO_CHOOSE];
        final boolean[] chosen = new boolean[TO_CHOOSE];
        int many;
        /** Row i, bit s: some of the pieces from the i-th on weigh s together. */
        private long[] sums;
        private int words;

        void add(int spot, int weight) {
            if (many < TO_CHOOSE) {
                spots[many] = spot;
                weights[many] = weight;
                many++;
            }
        }

        /** The least sum from weight on that is at most so much over, its pieces chosen; or NONE. */
        int choose(int weight, int over) {
            if (total() < weight) {
                return NONE;
            }
            int limit = Math.min(weight + over, WORDS * 64 - 1);
            sumUp(limit);
            for (int sum = Math.max(weight, 0); sum <= limit; sum++) {
                if (canWeigh(0, sum)) {
                    markFirst(sum);
                    return sum;
                }
            }
            return NONE;
        }

        int countChosen() {
            int count = 0;
            for (int i = 0; i < many; i++) {
                if (chosen[i]) {
                    count++;
                }
            }
            return count;
        }

        private int total() {
            int sum = 0;
            for (int i = 0; i < many; i++) {
                sum += weights[i];
            }
            return sum;
        }

        /** The rows are large, so they are made only once a kitchen has something to pack. */
        private void sumUp(int limit) {
            if (sums == null) {
                sums = new long[(TO_CHOOSE + 1) * WORDS];
            }
            words = limit / 64 + 1;
            int last = many * words;
            for (int k = 1; k < words; k++) {
                sums[last + k] = 0;
            }
            sums[last] = 1;
            for (int i = many - 1; i >= 0; i--) {
                addPiece(i * words, weights[i]);
            }
        }

        /** Makes the row at a start out of the next one: without the piece, or with it. */
        private void addPiece(int start, int weight) {
            int next = start + words;
            int skip = weight / 64;
            int shift = weight % 64;
            int head = Math.min(skip, words);
            System.arraycopy(sums, next, sums, start, head);
            for (int k = head; k < words; k++) {
                int source = next + k - skip;
                long moved = sums[source] << shift;
                if (shift > 0 && k > skip) {
                    moved |= sums[source - 1] >>> (64 - shift);
                }
                sums[start + k] = sums[next + k] | moved;
            }
        }

        private boolean canWeigh(int from, int sum) {
            return sum >= 0 && (sums[from * words + sum / 64] >>> (sum % 64) & 1) != 0;
        }

        /** Whoever comes first in the CHOICE and may come with some others, comes. */
        private void markFirst(int sum) {
            int rest = sum;
            for (int i = 0; i < many; i++) {
                chosen[i] = canWeigh(i + 1, rest - weights[i]);
                if (chosen[i]) {
                    rest -= weights[i];
                }
            }
        }
    }

    /** MOST: pieces are bits here, the heaviest first; each level of the search takes one away. */
    static final class Parting {
        private static final int UNKNOWN = -1;

        private final int[] weights = new int[TO_PART];
        private int many;
        private int low;
        private int high;
        /** The most boxes for each set of free pieces. */
        private byte[] known;

        int mostBoxes(Choice choice, int weight, int over) {
            low = weight;
            high = weight + over;
            many = 0;
            int sum = 0;
            int end = Math.min(choice.many, TO_PART);
            for (int i = 0; i < end; i++) {
                insert(choice.weights[i]);
                sum += choice.weights[i];
            }
            if (sum < low) {
                return 0;
            }
            forget();
            return mostOf((1 << many) - 1, sum);
        }

        private void insert(int weight) {
            int i = many;
            while (i > 0 && weights[i - 1] < weight) {
                weights[i] = weights[i - 1];
                i--;
            }
            weights[i] = weight;
            many++;
        }

        /** Most kitchens part few pieces, so the room for what is known grows with them. */
        private void forget() {
            int sets = 1 << many;
            if (known == null || known.length < sets) {
                known = new byte[sets];
            }
            for (int i = 0; i < sets; i++) {
                known[i] = (byte) UNKNOWN;
            }
        }

        private boolean isFree(int free, int i) {
            return (free >> i & 1) != 0;
        }

        /** The heaviest free piece is in a box, or none that weighs the same is in any. */
        private int mostOf(int free, int sum) {
            if (sum < low) {
                return 0;
            }
            if (known[free] != UNKNOWN) {
                return known[free];
            }
            int lead = 0;
            while (lead < many && !isFree(free, lead)) {
                lead++;
            }
            if (lead >= many) {
                return 0;
            }
            int weight = weights[lead];
            int rest = sum - weight;
            int best = fillBox(free & ~(1 << lead), rest, lead + 1, rest, weight);
            if ((best + 1) * low <= sum) {
                int others = free;
                int sumOfOthers = sum;
                for (int i = lead; i < many && weights[i] == weight; i++) {
                    if (isFree(others, i)) {
                        others &= ~(1 << i);
                        sumOfOthers -= weight;
                    }
                }
                best = Math.max(best, mostOf(others, sumOfOthers));
            }
            known[free] = (byte) best;
            return best;
        }

        /**
         * The most boxes when one is open that weighs inBox and may get free pieces from a place
         * on, which weigh ahead together. A box that is heavy enough is closed at once: what more
         * it could take is better left free.
         */
        private int fillBox(int free, int sum, int from, int ahead, int inBox) {
            if (inBox >= low) {
                return inBox <= high ? 1 + mostOf(free, sum) : 0;
            }
            int best = 0;
            int i = from;
            int rest = ahead;
            while (i < many && inBox + rest >= low && (best + 1) * low <= inBox + sum) {
                int weight = weights[i];
                if (isFree(free, i) && inBox + weight <= high) {
                    int with = fillBox(free & ~(1 << i), sum - weight, i + 1, rest - weight,
                            inBox + weight);
                    best = Math.max(best, with);
                }
                // Another piece of the same weight in its stead would find nothing new.
                boolean tried = isFree(free, i);
                while (i < many && weights[i] == weight && isFree(free, i) == tried) {
                    rest -= tried ? weight : 0;
                    i++;
                }
            }
            return best;
        }
    }

    /** THE QUEUE and its order. Batches of one KIND cost alike, so KINDS are counted, not batches. */
    static final class Kettle {
        /** The most ways to have some left of each KIND: ten batches as 2, 2, 2, 2, 1, 1. */
        private static final int STATES = 3 * 3 * 3 * 3 * 2 * 2;

        private final int[] washing = new int[KINDS * KINDS];
        private final int[] queued = new int[QUEUED];
        private final int[] kinds = new int[QUEUED];
        int many;
        final int[] ordered = new int[QUEUED];
        int orderMinutes;
        private boolean known;
        private boolean knownNutsLast;
        private final boolean[] used = new boolean[QUEUED];
        private final int[] counts = new int[KINDS];
        private final int[] strides = new int[KINDS];
        private final int[] waiting = new int[KINDS];
        /** At state * KINDS + the KIND before: the least minutes for all that wait. */
        private int[] least;

        void setWashing(int from, int to, int minutes) {
            washing[from * KINDS + to] = minutes;
            known = false;
        }

        void empty() {
            many = 0;
            known = false;
        }

        int add(int batch, int kind) {
            for (int i = 0; i < many; i++) {
                if (queued[i] == batch) {
                    return NONE;
                }
            }
            if (many >= QUEUED) {
                return NONE;
            }
            queued[many] = batch;
            kinds[many] = kind;
            many++;
            known = false;
            return many;
        }

        void findOrder(boolean nutsLast) {
            if (known && knownNutsLast == nutsLast) {
                return;
            }
            orderMinutes = 0;
            if (many > 0) {
                int states = countKinds();
                findLeast(states, nutsLast);
                followLeast(states - 1, nutsLast);
            }
            known = true;
            knownNutsLast = nutsLast;
        }

        /** How many states there are: numbers with one digit a KIND, how many of it wait. */
        private int countKinds() {
            Arrays.fill(counts, 0);
            for (int i = 0; i < many; i++) {
                counts[kinds[i]]++;
            }
            int states = 1;
            for (int kind = 0; kind < KINDS; kind++) {
                strides[kind] = states;
                states *= counts[kind] + 1;
            }
            return Math.min(states, STATES);
        }

        private void findLeast(int states, boolean nutsLast) {
            if (least == null) {
                least = new int[STATES * KINDS];
            }
            Arrays.fill(waiting, 0);
            for (int before = 0; before < KINDS; before++) {
                least[before] = 0;
            }
            for (int state = 1; state < states; state++) {
                countOn();
                findLeastOf(state, nutsLast);
            }
        }

        private void countOn() {
            int kind = 0;
            while (kind < KINDS - 1 && waiting[kind] >= counts[kind]) {
                waiting[kind] = 0;
                kind++;
            }
            waiting[kind]++;
        }

        private void findLeastOf(int state, boolean nutsLast) {
            int start = state * KINDS;
            for (int before = 0; before < KINDS; before++) {
                least[start + before] = GREATEST_INT;
            }
            for (int kind = 0; kind < KINDS; kind++) {
                if (mayCome(kind, nutsLast)) {
                    int rest = leastOnce(state, kind);
                    for (int before = 0; before < KINDS; before++) {
                        int minutes = washing[before * KINDS + kind] + rest;
                        least[start + before] = Math.min(least[start + before], minutes);
                    }
                }
            }
        }

        /** The least minutes once a batch of a KIND that waited has come. */
        private int leastOnce(int state, int kind) {
            int next = state - strides[kind];
            return next >= 0 ? least[next * KINDS + kind] : 0;
        }

        private boolean mayCome(int kind, boolean nutsLast) {
            if (waiting[kind] <= 0) {
                return false;
            }
            return kind != NUT || !nutsLast || onlyNutsWait();
        }

        private boolean onlyNutsWait() {
            for (int kind = 0; kind < KINDS; kind++) {
                if (kind != NUT && waiting[kind] > 0) {
                    return false;
                }
            }
            return true;
        }

        private void followLeast(int firstState, boolean nutsLast) {
            System.arraycopy(counts, 0, waiting, 0, KINDS);
            for (int i = 0; i < many; i++) {
                used[i] = false;
            }
            int state = firstState;
            int before = NONE;
            for (int i = 0; i < many; i++) {
                int next = findNext(state, before, nutsLast);
                int kind = kinds[next];
                orderMinutes += before == NONE ? 0 : washing[before * KINDS + kind];
                ordered[i] = queued[next];
                used[next] = true;
                waiting[kind]--;
                state -= strides[kind];
                before = kind;
            }
        }

        /** Of those with like minutes the first in the QUEUE; some batch may always come. */
        private int findNext(int state, int before, boolean nutsLast) {
            int next = 0;
            int best = GREATEST_INT;
            for (int i = 0; i < many; i++) {
                if (!used[i] && mayCome(kinds[i], nutsLast)) {
                    int minutes = leastOnce(state, kinds[i]);
                    minutes += before == NONE ? 0 : washing[before * KINDS + kinds[i]];
                    if (minutes < best) {
                        best = minutes;
                        next = i;
                    }
                }
            }
            return next;
        }
    }
}
