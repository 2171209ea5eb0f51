import java.util.Random;

/** Full trays and long queues, held against the PlainKitchen. */
public final class HardPackTest {
    private final Due due = new Due("HardPackTest");
    private final SugarKitchen real = new SugarKitchen();
    private final PlainKitchen plain = new PlainKitchen();
    private final Random random;

    private HardPackTest(int seed) {
        random = new Random(seed);
    }

    public static void main(String[] args) {
        Due all = new Due("HardPackTest");
        for (int seed = 1; seed <= 60; seed++) {
            HardPackTest test = new HardPackTest(seed);
            test.fillTrays();
            test.askAll();
            test.askOrders();
            all.is("kitchen " + seed + ": wrong answers", 0, test.due.wrongSoFar());
        }
        all.end();
    }

    private int between(int low, int high) {
        return low + random.nextInt(high - low + 1);
    }

    private void good(int kind) {
        int b = plain.batch(kind);
        real.batch(kind);
        for (int lot = 0; lot < 4; lot++) {
            plain.put(b, lot, 100000);
            real.put(b, lot, 100000);
        }
        plain.cook(b, 1);
        real.cook(b, 1);
        plain.vouch(b);
        real.vouch(b);
    }

    private void fillTrays() {
        for (int i = 0; i < 4; i++) {
            plain.lot(1000000, i);
            real.lot(1000000, i);
        }
        good(3);
        good(4);
        good(5);
        int lightest = between(0, 1) == 0 ? 10 : between(10, 500);
        int heaviest = Math.min(2000, lightest + (between(0, 1) == 0 ? between(0, 60) : 2000));
        int laid = between(14, 144);
        int step = between(0, 2) == 0 ? between(2, 50) : 1;
        for (int i = 0; i < laid; i++) {
            int batch = between(0, 1);
            int weight = Math.max(10, between(lightest, heaviest) / step * step);
            plain.cut(batch, weight, 1);
            real.cut(batch, weight, 1);
            int spot = i * 89 % 144;
            plain.place(i, spot / 24, spot % 24);
            real.place(i, spot / 24, spot % 24);
        }
    }

    private void askAll() {
        for (int i = 0; i < 12; i++) {
            int sorts = between(0, 2) == 0 ? between(1, 2) : 15;
            int weight = between(1, between(0, 1) == 0 ? 8000 : 3000);
            int over = between(0, 3) == 0 ? between(0, 500) : between(0, 5);
            for (int what = 0; what < 5; what++) {
                due.is("would(" + sorts + ", " + weight + ", " + over + ", " + what + ")",
                        plain.would(sorts, weight, over, what),
                        real.would(sorts, weight, over, what));
            }
            int box = plain.pack(sorts, weight, over);
            due.is("pack(" + sorts + ", " + weight + ", " + over + ")", box,
                    real.pack(sorts, weight, over));
            for (int k = 0; k < 41; k++) {
                due.is("boxOf(" + box + ", " + (100 + k) + ")", plain.boxOf(box, 100 + k),
                        real.boxOf(box, 100 + k));
            }
        }
    }

    private void askOrders() {
        int greatest = between(0, 1) == 0 ? 600 : 3;
        for (int from = 0; from < 6; from++) {
            for (int to = 0; to < 6; to++) {
                int minutes = between(0, greatest);
                plain.wash(from, to, minutes);
                real.wash(from, to, minutes);
            }
        }
        for (int i = 0; i < 9; i++) {
            int kind = between(0, 5);
            int b = plain.batch(kind);
            real.batch(kind);
            due.is("queue(" + b + ")", plain.queue(b), real.queue(b));
        }
        int nutsLast = between(0, 1);
        for (int i = -1; i <= 9; i += 2) {
            due.is("order(" + nutsLast + ", " + i + ")", plain.order(nutsLast == 1, i),
                    real.order(nutsLast == 1, i));
        }
    }
}
