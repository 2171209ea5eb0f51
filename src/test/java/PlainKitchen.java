import java.util.ArrayList;
import java.util.Arrays;
import java.util.List;
import java.util.TreeSet;

/**
 * The document written down once more, as plainly as may be and by other means than the class
 * (whole searches, library floats, sets), so that random runs can be held against it.
 */
final class PlainKitchen {
    static final int NONE = -1;

    static final class B {
        int kind, mass, put, lost, loss, phase, count, cut, dipped, ticks;
        boolean cooked, vouched, doubtful;
        Integer top, missing, grained;
        Float[] degrees;
        Boolean[] stirs;
        TreeSet<Integer> lots = new TreeSet<>();
    }

    static final class P {
        int batch, weight, coat = NONE, box = NONE, tray = NONE, place = NONE;
        boolean tempered, allowed;
    }

    static final class X {
        int told, weight;
        TreeSet<Integer> pieces = new TreeSet<>();
        TreeSet<Integer> lots = new TreeSet<>();
    }

    final List<int[]> lots = new ArrayList<>();
    final List<B> batches = new ArrayList<>();
    final List<P> pieces = new ArrayList<>();
    final List<X> boxes = new ArrayList<>();
    final List<int[]> table = new ArrayList<>();
    final List<Integer> queue = new ArrayList<>();
    final int[][] bounds = new int[6][];
    final int[][] wash = new int[6][6];
    int grainLow = 0, grainHigh = -1;
    int[] temper = {450, 270, 310, 320, 290, 2};

    PlainKitchen() {
        for (int i = 0; i < 6; i++) {
            bounds[i] = new int[] {0, 900};
        }
    }

    private static <T> T get(List<T> list, int i) {
        return i >= 0 && i < list.size() ? list.get(i) : null;
    }

    int lot(int amount, int warnings) {
        if (amount < 0 || amount > 1000000 || warnings < 0 || warnings > 255 || lots.size() == 40) {
            return NONE;
        }
        lots.add(new int[] {amount, warnings});
        return lots.size() - 1;
    }

    int batch(int kind) {
        if (kind < 0 || kind > 5 || batches.size() == 40) {
            return NONE;
        }
        B b = new B();
        b.kind = kind;
        batches.add(b);
        return batches.size() - 1;
    }

    int put(int batch, int lot, int amount) {
        B b = get(batches, batch);
        int[] l = get(lots, lot);
        if (b == null || l == null || b.cooked || amount < 1 || amount > l[0]) {
            return NONE;
        }
        l[0] -= amount;
        b.mass += amount;
        b.put += amount;
        b.lots.add(lot);
        return b.mass;
    }

    boolean row(int batch, int which, int length) {
        B b = get(batches, batch);
        if (b == null || b.cooked || which < 0 || which > 1 || length < -1 || length > 60) {
            return false;
        }
        if (which == 0) {
            b.degrees = length == NONE ? null : new Float[length];
            if (b.degrees != null) {
                Arrays.fill(b.degrees, 0f);
            }
        } else {
            b.stirs = length == NONE ? null : new Boolean[length];
            if (b.stirs != null) {
                Arrays.fill(b.stirs, false);
            }
        }
        return true;
    }

    boolean tick(int batch, int place, int bits) {
        B b = get(batches, batch);
        if (b == null || b.cooked || b.degrees == null || place < 0 || place >= b.degrees.length) {
            return false;
        }
        b.degrees[place] = Float.intBitsToFloat(bits);
        return true;
    }

    boolean stir(int batch, int place, boolean yes) {
        B b = get(batches, batch);
        if (b == null || b.cooked || b.stirs == null || place < 0 || place >= b.stirs.length) {
            return false;
        }
        b.stirs[place] = yes;
        return true;
    }

    int table(int degree, int loss) {
        if (loss < 0 || loss > 900 || table.size() == 16) {
            return NONE;
        }
        for (int[] row : table) {
            if (row[0] >= degree) {
                return NONE;
            }
        }
        table.add(new int[] {degree, loss});
        return table.size();
    }

    boolean grain(int low, int high) {
        grainLow = low;
        grainHigh = high;
        return true;
    }

    boolean bounds(int kind, int low, int high) {
        if (kind < 0 || kind > 5) {
            return false;
        }
        bounds[kind] = new int[] {low, high};
        return true;
    }

    int cook(int batch, int ticks) {
        B b = get(batches, batch);
        if (b == null || b.cooked || b.mass == 0 || ticks < 1 || ticks > 60) {
            return NONE;
        }
        b.cooked = true;
        List<Integer> read = new ArrayList<>();
        for (int t = 0; t < ticks; t++) {
            if (b.degrees == null || t >= b.degrees.length) {
                b.doubtful = true;
                b.missing = t;
                break;
            }
            float f = b.degrees[t];
            read.add(Float.isNaN(f) ? null : (Integer) (int) (f * 10f));
        }
        for (Integer degree : read) {
            if (degree != null && (b.top == null || degree > b.top)) {
                b.top = degree;
            }
        }
        for (int[] row : table) {
            if (b.top != null && row[0] <= b.top) {
                b.loss = row[1];
            }
        }
        int first = b.top == null ? read.size() : read.indexOf(b.top);
        for (int t = first + 1; t < read.size() && b.grained == null; t++) {
            boolean stirred = b.stirs != null && t < b.stirs.length && b.stirs[t];
            Integer degree = read.get(t);
            if (stirred && degree != null && degree >= grainLow && degree <= grainHigh) {
                b.grained = t;
            }
        }
        b.lost = (int) ((long) b.mass * b.loss / 1000);
        b.mass -= b.lost;
        return b.mass;
    }

    boolean vouch(int batch) {
        B b = get(batches, batch);
        if (b == null || !b.cooked) {
            return false;
        }
        b.vouched = true;
        return true;
    }

    int why(int batch) {
        B b = get(batches, batch);
        if (b == null) {
            return NONE;
        }
        if (b.cooked && b.vouched) {
            return 0;
        }
        boolean must = b.kind == 1 || b.kind == 3 || b.kind == 4;
        return !b.cooked ? 1 : b.doubtful ? 2 : b.loss < bounds[b.kind][0] ? 3
                : b.loss > bounds[b.kind][1] ? 4 : must && b.grained == null ? 5
                : b.kind == 2 && b.grained != null ? 6 : 0;
    }

    int batchOf(int batch, int what) {
        B b = get(batches, batch);
        if (b == null || what < 0 || what > 12) {
            return NONE;
        }
        int seven = b.doubtful ? b.missing : b.grained == null ? NONE : b.grained;
        return new int[] {b.kind, b.mass, b.put, b.lost, b.loss, b.top == null ? -1000001 : b.top,
            b.grained == null ? 0 : 1, seven, b.vouched ? 1 : 0, b.phase, b.count, b.cut,
            b.dipped}[what];
    }

    boolean temper(int d1, int d2, int d3, int d4, int d5, int n) {
        if (d2 >= d3 || d3 > d4 || d4 >= d1 || d5 > d3 || n < 1 || n > 20) {
            return false;
        }
        int[] told = {d1, d2, d3, d4, d5, n};
        if (Arrays.equals(told, temper)) {
            return true;
        }
        temper = told;
        for (B b : batches) {
            b.phase = 0;
            b.count = 0;
        }
        return true;
    }

    int heat(int batch, int degree) {
        B b = get(batches, batch);
        if (b == null || b.kind != 5 || !b.cooked) {
            return NONE;
        }
        if ((b.phase == 2 && degree > temper[3])
                || (b.phase == 3 && (degree > temper[3] || degree < temper[4]))) {
            b.phase = 0;
            b.count = 0;
        }
        boolean counts = b.phase == 0 && degree >= temper[0] || b.phase == 1 && degree <= temper[1]
                || b.phase == 2 && degree >= temper[2];
        b.count = counts ? b.count + 1 : 0;
        if (b.count == temper[5]) {
            b.phase++;
            b.count = 0;
        }
        return b.phase;
    }

    int cut(int batch, int weight, int many) {
        B b = get(batches, batch);
        if (b == null || why(batch) != 0 || (b.kind != 3 && b.kind != 4) || weight < 10
                || weight > 2000 || many < 1 || many > 99) {
            return NONE;
        }
        int made = Math.min(many, Math.min(b.mass / weight, 600 - pieces.size()));
        for (int i = 0; i < made; i++) {
            P p = new P();
            p.batch = batch;
            p.weight = weight;
            pieces.add(p);
        }
        b.mass -= made * weight;
        b.cut += made * weight;
        return made;
    }

    int dip(int piece, int coat, int weight) {
        P p = get(pieces, piece);
        B b = get(batches, coat);
        if (p == null || p.box != NONE || p.coat != NONE || b == null || b.kind != 5
                || why(coat) != 0 || weight < 1 || weight > 1000 || b.mass < weight) {
            return NONE;
        }
        b.mass -= weight;
        b.dipped += weight;
        p.weight += weight;
        p.coat = coat;
        p.tempered = b.phase == 3;
        return p.tempered ? 1 : 0;
    }

    boolean place(int piece, int tray, int place) {
        P p = get(pieces, piece);
        if (p == null || p.box != NONE || tray < 0 || tray > 5 || place < 0 || place > 23
                || at(tray, place) != NONE) {
            return false;
        }
        p.tray = tray;
        p.place = place;
        return true;
    }

    boolean take(int piece) {
        P p = get(pieces, piece);
        if (p == null || p.tray == NONE) {
            return false;
        }
        p.tray = NONE;
        p.place = NONE;
        return true;
    }

    boolean allow(int piece) {
        P p = get(pieces, piece);
        if (p == null || p.coat == NONE || p.tempered) {
            return false;
        }
        p.allowed = true;
        return true;
    }

    private int sort(P p) {
        return (batches.get(p.batch).kind == 4 ? 1 : 0) + (p.coat == NONE ? 0 : 2);
    }

    private boolean fit(P p) {
        return p.tray != NONE && (p.coat == NONE || p.tempered || p.allowed);
    }

    int pieceOf(int piece, int what) {
        P p = get(pieces, piece);
        if (p == null || what < 0 || what > 8) {
            return NONE;
        }
        int where = p.box != NONE ? 2 : p.tray != NONE ? 1 : 0;
        int there = where == 2 ? p.box : where == 1 ? 24 * p.tray + p.place : NONE;
        return new int[] {p.batch, p.weight, p.coat, p.coat == NONE ? NONE : p.tempered ? 1 : 0,
            p.allowed ? 1 : 0, where, there, sort(p), fit(p) ? 1 : 0}[what];
    }

    int at(int tray, int place) {
        for (int i = 0; i < pieces.size(); i++) {
            if (pieces.get(i).tray == tray && tray != NONE && pieces.get(i).place == place) {
                return i;
            }
        }
        return NONE;
    }

    private List<Integer> choice(int sorts, TreeSet<Integer> gone) {
        List<Integer> found = new ArrayList<>();
        for (int tray = 0; tray < 6; tray++) {
            for (int place = 0; place < 24 && found.size() < 40; place++) {
                int i = at(tray, place);
                if (i == NONE || gone.contains(i)) {
                    continue;
                }
                P p = pieces.get(i);
                if (fit(p) && (sorts & 1 << sort(p)) != 0) {
                    found.add(i);
                }
            }
        }
        return found;
    }

    private static final int MANY_SUMS = 8501;

    /** For each sum the way that lies first, as a number whose highest bit is the first piece. */
    private List<Integer> best(List<Integer> choice, int weight, int over) {
        long[] ways = new long[MANY_SUMS];
        Arrays.fill(ways, -1);
        ways[0] = 0;
        for (int i = 0; i < choice.size(); i++) {
            int w = pieces.get(choice.get(i)).weight;
            for (int s = weight + over; s >= w; s--) {
                if (ways[s - w] >= 0) {
                    ways[s] = Math.max(ways[s], ways[s - w] | 1L << (40 - i));
                }
            }
        }
        for (int s = weight; s <= weight + over; s++) {
            if (ways[s] >= 0) {
                List<Integer> found = new ArrayList<>();
                for (int i = 0; i < choice.size(); i++) {
                    if ((ways[s] & 1L << (40 - i)) != 0) {
                        found.add(choice.get(i));
                    }
                }
                return found;
            }
        }
        return null;
    }

    private int weigh(List<Integer> some) {
        int sum = 0;
        for (int i : some) {
            sum += pieces.get(i).weight;
        }
        return sum;
    }

    private static boolean asked(int sorts, int weight, int over) {
        return sorts >= 1 && sorts <= 15 && weight >= 1 && weight <= 8000 && over >= 0
                && over <= 500;
    }

    private TreeSet<Integer> lotsOf(P p) {
        TreeSet<Integer> all = new TreeSet<>(batches.get(p.batch).lots);
        if (p.coat != NONE) {
            all.addAll(batches.get(p.coat).lots);
        }
        return all;
    }

    int pack(int sorts, int weight, int over) {
        if (!asked(sorts, weight, over) || boxes.size() == 200) {
            return NONE;
        }
        List<Integer> best = best(choice(sorts, new TreeSet<>()), weight, over);
        if (best == null) {
            return NONE;
        }
        X box = new X();
        box.told = weight;
        box.weight = weigh(best);
        for (int i : best) {
            P p = pieces.get(i);
            p.tray = NONE;
            p.place = NONE;
            p.box = boxes.size();
            box.pieces.add(i);
            box.lots.addAll(lotsOf(p));
        }
        boxes.add(box);
        return boxes.size() - 1;
    }

    int would(int sorts, int weight, int over, int what) {
        if (!asked(sorts, weight, over) || what < 0 || what > 4) {
            return NONE;
        }
        List<Integer> choice = choice(sorts, new TreeSet<>());
        if (what == 4) {
            return choice.size();
        }
        if (what == 3) {
            return most(choice, weight, over);
        }
        if (what == 2) {
            TreeSet<Integer> gone = new TreeSet<>();
            int full = 0;
            List<Integer> best = best(choice, weight, over);
            while (best != null) {
                full++;
                gone.addAll(best);
                best = best(choice(sorts, gone), weight, over);
            }
            return full;
        }
        List<Integer> best = best(choice, weight, over);
        return best == null ? NONE : what == 0 ? weigh(best) - weight : best.size();
    }

    /** Every set of pieces, and of each every part of it as a box. */
    private int most(List<Integer> choice, int weight, int over) {
        int n = Math.min(14, choice.size());
        int[] sum = new int[1 << n];
        int[] most = new int[1 << n];
        for (int set = 1; set < 1 << n; set++) {
            int low = Integer.numberOfTrailingZeros(set);
            sum[set] = sum[set & set - 1] + pieces.get(choice.get(low)).weight;
            most[set] = most[set & set - 1];
            for (int part = set; part > 0; part = part - 1 & set) {
                if (sum[part] >= weight && sum[part] <= weight + over) {
                    most[set] = Math.max(most[set], 1 + most[set ^ part]);
                }
            }
        }
        return most[(1 << n) - 1];
    }

    int boxOf(int box, int what) {
        X x = get(boxes, box);
        if (x == null) {
            return NONE;
        }
        int warnings = 0;
        for (int lot : x.lots) {
            warnings |= lots.get(lot)[1];
        }
        if (what >= 0 && what <= 4) {
            return new int[] {x.pieces.size(), x.weight, x.told, warnings, x.lots.size()}[what];
        }
        Integer found = what >= 200 ? get(new ArrayList<>(x.lots), what - 200)
                : what >= 100 ? get(new ArrayList<>(x.pieces), what - 100) : null;
        return found == null ? NONE : found;
    }

    boolean wash(int from, int to, int minutes) {
        if (from < 0 || from > 5 || to < 0 || to > 5 || minutes < 0 || minutes > 600) {
            return false;
        }
        wash[from][to] = minutes;
        return true;
    }

    int queue(int batch) {
        if (batch == NONE) {
            queue.clear();
            return 0;
        }
        if (get(batches, batch) == null || queue.contains(batch) || queue.size() == 10) {
            return NONE;
        }
        queue.add(batch);
        return queue.size();
    }

    private int[] bestOrder;
    private int bestMinutes;

    /** All orders, those that lie first first, so that only a lesser sum takes an order's place. */
    private void tryOrders(int[] order, int placed, boolean[] used, int minutes, boolean nutsLast) {
        if (minutes >= bestMinutes) {
            return;
        }
        if (placed == order.length) {
            bestMinutes = minutes;
            bestOrder = order.clone();
            return;
        }
        for (int i = 0; i < order.length; i++) {
            if (used[i]) {
                continue;
            }
            int kind = batches.get(queue.get(i)).kind;
            int before = placed == 0 ? NONE : batches.get(order[placed - 1]).kind;
            if (nutsLast && before == 4 && kind != 4) {
                continue;
            }
            used[i] = true;
            order[placed] = queue.get(i);
            int more = before == NONE ? 0 : wash[before][kind];
            tryOrders(order, placed + 1, used, minutes + more, nutsLast);
            used[i] = false;
        }
    }

    int order(boolean nutsLast, int i) {
        bestMinutes = Integer.MAX_VALUE;
        tryOrders(new int[queue.size()], 0, new boolean[queue.size()], 0, nutsLast);
        if (i == NONE) {
            return bestMinutes;
        }
        return i >= 0 && i < bestOrder.length ? bestOrder[i] : NONE;
    }

    int recall(int lot, int what, int i) {
        if (get(lots, lot) == null) {
            return NONE;
        }
        List<Integer> found = new ArrayList<>();
        for (int n = 0; what == 0 && n < batches.size(); n++) {
            if (batches.get(n).lots.contains(lot)) {
                found.add(n);
            }
        }
        for (int n = 0; what == 1 && n < pieces.size(); n++) {
            if (lotsOf(pieces.get(n)).contains(lot)) {
                found.add(n);
            }
        }
        for (int n = 0; what == 2 && n < boxes.size(); n++) {
            if (boxes.get(n).lots.contains(lot)) {
                found.add(n);
            }
        }
        Integer answer = get(found, i);
        return answer == null ? NONE : answer;
    }

    int about(int what) {
        int fit = 0;
        for (P p : pieces) {
            fit += fit(p) ? 1 : 0;
        }
        return what < 0 || what > 6 ? NONE : new int[] {lots.size(), batches.size(), pieces.size(),
            boxes.size(), table.size(), queue.size(), fit}[what];
    }

    int left(int lot) {
        int[] l = get(lots, lot);
        return l == null ? NONE : l[0];
    }
}
