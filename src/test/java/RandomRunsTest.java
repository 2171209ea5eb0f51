import java.util.Random;

/** Random runs of calls, each answer held against the PlainKitchen's. */
public final class RandomRunsTest {
    private static final int RUNS = 600;
    private static final int CALLS = 512;

    private final Due due = new Due("RandomRunsTest");
    private SugarKitchen real;
    private PlainKitchen plain;
    private Random random;
    private String run;
    private int weightStep;

    public static void main(String[] args) {
        RandomRunsTest test = new RandomRunsTest();
        for (int seed = 1; seed <= RUNS && test.due.wrongSoFar() == 0; seed++) {
            test.oneRun(seed);
        }
        test.due.end();
    }

    private void oneRun(int seed) {
        real = new SugarKitchen();
        plain = new PlainKitchen();
        random = new Random(seed);
        run = "run " + seed;
        weightStep = new int[] {1, 1, 10, 50}[random.nextInt(4)];
        boolean busy = random.nextInt(4) != 0;
        int calls = 0;
        if (busy) {
            calls = setUp();
        }
        while (calls < CALLS && due.wrongSoFar() == 0) {
            calls += busy && random.nextInt(3) != 0 ? workWithPieces() : anyCall();
        }
        lookAtAll();
    }

    private int between(int low, int high) {
        return low + random.nextInt(high - low + 1);
    }

    /** Mostly a number that is there, sometimes one beside. */
    private int some(int count) {
        return random.nextInt(12) == 0 ? between(-2, count + 1)
                : count == 0 ? 0 : random.nextInt(count);
    }

    private void is(String call, int want, int got) {
        due.is(run + ": " + call, want, got);
    }

    private void is(String call, boolean want, boolean got) {
        due.is(run + ": " + call, want, got);
    }

    private int setUp() {
        for (int i = 0; i < 4; i++) {
            lot(between(100000, 1000000), between(0, 255));
        }
        for (int kind : new int[] {3, 4, 5, 5}) {
            batch(kind);
        }
        for (int b = 0; b < 4; b++) {
            put(b, between(0, 3), between(20000, 60000));
            put(b, between(0, 3), between(1, 500));
            row(b, 0, 3);
            cook(b, 3);
            vouch(b);
        }
        for (int i = 0; i < 4; i++) {
            heat(2, i < 2 ? 460 : 260);
        }
        heat(2, 310);
        heat(2, 312);
        for (int i = 0; i < 12; i++) {
            cut(between(0, 1), pieceWeight(), between(1, 6));
        }
        return 60;
    }

    private int pieceWeight() {
        return Math.max(10, between(10, 400) / weightStep * weightStep);
    }

    private int workWithPieces() {
        switch (random.nextInt(9)) {
            case 0:
            case 1:
            case 2:
            case 3:
                place(some(plain.pieces.size()), between(0, random.nextInt(3) == 0 ? 5 : 1),
                        between(0, 23));
                return 1;
            case 4:
                dip(some(plain.pieces.size()), between(2, 3), between(1, 4) * weightStep);
                return 1;
            case 5:
                allow(some(plain.pieces.size()));
                return 1;
            case 6:
                would(sorts(), boxWeight(), over(), between(0, 4));
                return 1;
            case 7:
                pack(sorts(), boxWeight(), over());
                return 1;
            default:
                take(some(plain.pieces.size()));
                return 1;
        }
    }

    private int sorts() {
        return random.nextInt(3) == 0 ? between(0, 16) : 15;
    }

    private int boxWeight() {
        return random.nextInt(8) == 0 ? between(-1, 8002) : between(1, 2000);
    }

    private int over() {
        return random.nextInt(8) == 0 ? between(-1, 501) : between(0, 60);
    }

    private int floatBits() {
        switch (random.nextInt(10)) {
            case 0:
                return random.nextInt();
            case 1:
                return Float.floatToRawIntBits(Float.NaN) | random.nextInt(100);
            case 2:
                return 0xff800000 >>> random.nextInt(2);
            default:
                return Float.floatToRawIntBits(between(0, 1500) / 10f * (random.nextInt(9) - 1));
        }
    }

    private int anyCall() {
        int b = some(plain.batches.size());
        switch (random.nextInt(20)) {
            case 0:
                lot(between(-1, 1000001), between(-1, 256));
                return 1;
            case 1:
                batch(between(-1, 6));
                return 1;
            case 2:
                put(b, some(plain.lots.size()), between(0, 3000));
                return 1;
            case 3:
                row(b, between(-1, 2), between(-2, 61));
                row(b, between(0, 1), between(0, 12));
                return 2;
            case 4:
            case 5:
            case 6:
                tick(b, between(-1, 12), floatBits());
                stir(b, between(-1, 12), random.nextBoolean());
                return 2;
            case 7:
                table(between(-100, 300) + plain.table.size() * 300, between(-10, 910));
                return 1;
            case 8:
                grain(between(-100, 600), between(300, 9000));
                return 1;
            case 9:
                bounds(between(-1, 6), between(0, 300), between(200, 900));
                return 1;
            case 10:
                cook(b, random.nextInt(5) == 0 ? between(-1, 61) : between(1, 12));
                return 1;
            case 11:
                vouch(b);
                return 1;
            case 12:
                heatSome();
                return 4;
            case 13:
                if (random.nextInt(3) == 0) {
                    int[] t = plain.temper;
                    temper(t[0], t[1], t[2], t[3], t[4], t[5]);
                    return 1;
                }
                temper(between(440, 455), between(260, 290), between(285, 315), between(300, 330),
                        between(280, 300), between(0, 4));
                return 1;
            case 14:
                cut(b, random.nextInt(6) == 0 ? between(8, 2002) : pieceWeight(), between(-1, 100));
                return 1;
            case 15:
                wash(between(-1, 6), between(-1, 6), random.nextInt(4) == 0 ? between(-1, 601)
                        : between(0, 4));
                return 1;
            case 16:
                queue(plain.queue.size() > 6 ? NONE : b);
                return 1;
            case 17:
                orders();
                return 4;
            case 18:
                look();
                return 3;
            default:
                why(b);
                batchOf(b, between(-1, 13));
                return 2;
        }
    }

    private static final int NONE = -1;

    private void heatSome() {
        for (int i = 0; i < 4; i++) {
            int b = some(plain.batches.size());
            for (int k = 0; k < plain.batches.size(); k++) {
                if (plain.batches.get(k).kind == 5 && random.nextBoolean()) {
                    b = k;
                }
            }
            int degree = new int[] {between(440, 460), between(255, 275), between(300, 320),
                between(250, 460)}[random.nextInt(4)];
            is("heat(" + b + ", " + degree + ")", plain.heat(b, degree), real.heat(b, degree));
        }
    }

    private void orders() {
        boolean nutsLast = random.nextBoolean();
        for (int i = -2; i < 2; i++) {
            order(nutsLast, i < 0 ? i : between(0, 8));
        }
    }

    private void look() {
        recall(some(plain.lots.size()), between(-1, 3), between(-1, 5));
        boxOf(some(plain.boxes.size()), new int[] {between(-1, 5), between(99, 106),
            between(199, 206)}[random.nextInt(3)]);
        pieceOf(some(plain.pieces.size()), between(-1, 9));
    }

    private void lookAtAll() {
        for (int what = -1; what <= 7; what++) {
            is("about(" + what + ")", plain.about(what), real.about(what));
        }
        for (int lot = -1; lot <= plain.lots.size(); lot++) {
            is("left(" + lot + ")", plain.left(lot), real.left(lot));
            for (int what = 0; what < 3; what++) {
                for (int i = 0; i < 9; i++) {
                    recall(lot, what, i);
                }
            }
        }
        for (int batch = -1; batch <= plain.batches.size(); batch++) {
            why(batch);
            for (int what = -1; what <= 13; what++) {
                batchOf(batch, what);
            }
        }
        for (int piece = -1; piece <= plain.pieces.size(); piece++) {
            for (int what = -1; what <= 9; what++) {
                pieceOf(piece, what);
            }
        }
        for (int box = -1; box <= plain.boxes.size(); box++) {
            for (int what = -1; what < 242; what++) {
                boxOf(box, what);
            }
        }
        for (int tray = -1; tray <= 6; tray++) {
            for (int place = -1; place <= 24; place++) {
                is("at(" + tray + ", " + place + ")", plain.at(tray, place), real.at(tray, place));
            }
        }
        for (int i = -2; i <= 10; i++) {
            order(false, i);
            order(true, i);
        }
        for (int what = 0; what < 5; what++) {
            would(15, between(100, 900), between(0, 40), what);
        }
    }

    // ---- each call on both

    private void lot(int a, int w) {
        is("lot(" + a + ", " + w + ")", plain.lot(a, w), real.lot(a, w));
    }

    private void batch(int k) {
        is("batch(" + k + ")", plain.batch(k), real.batch(k));
    }

    private void put(int b, int l, int a) {
        is("put(" + b + ", " + l + ", " + a + ")", plain.put(b, l, a), real.put(b, l, a));
    }

    private void row(int b, int w, int l) {
        is("row(" + b + ", " + w + ", " + l + ")", plain.row(b, w, l), real.row(b, w, l));
    }

    private void tick(int b, int p, int bits) {
        is("tick(" + b + ", " + p + ", " + bits + ")", plain.tick(b, p, bits),
                real.tick(b, p, bits));
    }

    private void stir(int b, int p, boolean yes) {
        is("stir(" + b + ", " + p + ", " + yes + ")", plain.stir(b, p, yes), real.stir(b, p, yes));
    }

    private void table(int d, int l) {
        is("table(" + d + ", " + l + ")", plain.table(d, l), real.table(d, l));
    }

    private void grain(int l, int h) {
        is("grain(" + l + ", " + h + ")", plain.grain(l, h), real.grain(l, h));
    }

    private void bounds(int k, int l, int h) {
        is("bounds(" + k + ", " + l + ", " + h + ")", plain.bounds(k, l, h), real.bounds(k, l, h));
    }

    private void cook(int b, int t) {
        is("cook(" + b + ", " + t + ")", plain.cook(b, t), real.cook(b, t));
    }

    private void vouch(int b) {
        is("vouch(" + b + ")", plain.vouch(b), real.vouch(b));
    }

    private void why(int b) {
        is("why(" + b + ")", plain.why(b), real.why(b));
    }

    private void batchOf(int b, int w) {
        is("batchOf(" + b + ", " + w + ")", plain.batchOf(b, w), real.batchOf(b, w));
    }

    private void temper(int a, int b, int c, int d, int e, int n) {
        is("temper(" + a + ", " + b + ", " + c + ", " + d + ", " + e + ", " + n + ")",
                plain.temper(a, b, c, d, e, n), real.temper(a, b, c, d, e, n));
    }

    private void heat(int b, int d) {
        is("heat(" + b + ", " + d + ")", plain.heat(b, d), real.heat(b, d));
    }

    private void cut(int b, int w, int m) {
        is("cut(" + b + ", " + w + ", " + m + ")", plain.cut(b, w, m), real.cut(b, w, m));
    }

    private void dip(int p, int c, int w) {
        is("dip(" + p + ", " + c + ", " + w + ")", plain.dip(p, c, w), real.dip(p, c, w));
    }

    private void place(int p, int t, int s) {
        is("place(" + p + ", " + t + ", " + s + ")", plain.place(p, t, s), real.place(p, t, s));
    }

    private void take(int p) {
        is("take(" + p + ")", plain.take(p), real.take(p));
    }

    private void allow(int p) {
        is("allow(" + p + ")", plain.allow(p), real.allow(p));
    }

    private void pieceOf(int p, int w) {
        is("pieceOf(" + p + ", " + w + ")", plain.pieceOf(p, w), real.pieceOf(p, w));
    }

    private void pack(int s, int w, int o) {
        is("pack(" + s + ", " + w + ", " + o + ")", plain.pack(s, w, o), real.pack(s, w, o));
    }

    private void would(int s, int w, int o, int what) {
        is("would(" + s + ", " + w + ", " + o + ", " + what + ")", plain.would(s, w, o, what),
                real.would(s, w, o, what));
    }

    private void boxOf(int b, int w) {
        is("boxOf(" + b + ", " + w + ")", plain.boxOf(b, w), real.boxOf(b, w));
    }

    private void wash(int f, int t, int m) {
        is("wash(" + f + ", " + t + ", " + m + ")", plain.wash(f, t, m), real.wash(f, t, m));
    }

    private void queue(int b) {
        is("queue(" + b + ")", plain.queue(b), real.queue(b));
    }

    private void order(boolean n, int i) {
        is("order(" + n + ", " + i + ")", plain.order(n, i), real.order(n, i));
    }

    private void recall(int l, int w, int i) {
        is("recall(" + l + ", " + w + ", " + i + ")", plain.recall(l, w, i), real.recall(l, w, i));
    }
}
