import java.util.ArrayList;
import java.util.List;

/** All that can be seen of a kitchen, and a way on that shows what can't be seen at once. */
final class Look {
    private static final int NONE = SugarKitchen.NONE;

    private final SugarKitchen k;
    private final List<String> seen = new ArrayList<>();

    private Look(SugarKitchen k) {
        this.k = k;
    }

    /** What the calls that only ask answer now. */
    static List<String> at(SugarKitchen k) {
        Look look = new Look(k);
        look.round();
        look.stock();
        look.pieces();
        look.boxes();
        return look.seen;
    }

    /** Goes on with it: rows, TABLE, GRAIN, TEMPER and WASHING show in what comes of them. */
    static List<String> further(SugarKitchen k, int ticks) {
        Look look = new Look(k);
        look.makeMore();
        look.heatAll();
        look.cookAll(ticks);
        look.stock();
        look.orders();
        look.packAll();
        look.seen.addAll(at(k));
        return look.seen;
    }

    /** The first line that only one of them has there, or "". */
    static String difference(List<String> one, List<String> other) {
        for (int i = 0; i < Math.max(one.size(), other.size()); i++) {
            String a = i < one.size() ? one.get(i) : "nothing";
            String b = i < other.size() ? other.get(i) : "nothing";
            if (!a.equals(b)) {
                return a + ", but else " + b;
            }
        }
        return "";
    }

    private void note(String call, int answer) {
        seen.add(call + " is " + answer);
    }

    private void round() {
        for (int what = 0; what < 7; what++) {
            note("about " + what, k.about(what));
        }
        for (int i = NONE; i < 10; i++) {
            note("order false " + i, k.order(false, i));
            note("order true " + i, k.order(true, i));
        }
        for (int sorts : new int[] {1, 2, 4, 8, 15}) {
            for (int what = 0; what < 5; what++) {
                note("would " + sorts + " 100 30 " + what, k.would(sorts, 100, 30, what));
            }
        }
    }

    private void stock() {
        for (int lot = 0; lot < k.about(0); lot++) {
            note("left " + lot, k.left(lot));
            for (int what = 0; what < 3; what++) {
                int i = 0;
                int found;
                do {
                    found = k.recall(lot, what, i);
                    note("recall " + lot + " " + what + " " + i, found);
                    i++;
                } while (found != NONE && i < 1000);
            }
        }
        for (int batch = 0; batch < k.about(1); batch++) {
            note("why " + batch, k.why(batch));
            for (int what = 0; what < 13; what++) {
                note("batchOf " + batch + " " + what, k.batchOf(batch, what));
            }
        }
    }

    private void pieces() {
        for (int piece = 0; piece < k.about(2); piece++) {
            for (int what = 0; what < 9; what++) {
                note("pieceOf " + piece + " " + what, k.pieceOf(piece, what));
            }
        }
        for (int spot = 0; spot < 144; spot++) {
            note("at " + spot / 24 + " " + spot % 24, k.at(spot / 24, spot % 24));
        }
    }

    private void boxes() {
        for (int box = 0; box < k.about(3); box++) {
            for (int what = 0; what < 5; what++) {
                note("boxOf " + box + " " + what, k.boxOf(box, what));
            }
            for (int i = 0; i < k.boxOf(box, 0); i++) {
                note("boxOf " + box + " " + (100 + i), k.boxOf(box, 100 + i));
            }
            for (int i = 0; i < k.boxOf(box, 4); i++) {
                note("boxOf " + box + " " + (200 + i), k.boxOf(box, 200 + i));
            }
        }
    }

    /** Batches of all KINDS, cooked to degrees between which a TABLE's rows may lie. */
    private void makeMore() {
        note("one more lot", k.lot(100000, 2));
        for (int kind = 0; kind < 6; kind++) {
            int b = k.batch(kind);
            note("one more batch", b);
            k.put(b, 0, 20);
            k.row(b, 0, 3);
            k.row(b, 1, 3);
            k.tick(b, 0, Kitchens.bits(300 * kind - 290));
            k.tick(b, 1, Kitchens.bits(300 * kind - 400));
            k.stir(b, 1, true);
            note("cook it", k.cook(b, 2));
        }
        note("one more row of the TABLE", k.table(100000, 333));
    }

    private void heatAll() {
        for (int batch = 0; batch < k.about(1); batch++) {
            for (int degree : new int[] {449, 450, 450, 271, 270, 270, 309, 310, 310, 290, 320,
                289}) {
                note("heat " + batch + " " + degree, k.heat(batch, degree));
                note("count of " + batch, k.batchOf(batch, 10));
            }
        }
    }

    /** Over few ticks it shows where each was GRAINED, over 60 how long its rows are. */
    private void cookAll(int ticks) {
        for (int batch = 0; batch < k.about(1); batch++) {
            note("put " + batch, k.put(batch, 0, 7));
            note("cook " + batch, k.cook(batch, ticks));
        }
    }

    private void orders() {
        for (int one = 0; one < Math.min(18, k.about(1)); one++) {
            for (int other = 0; other < Math.min(18, k.about(1)); other++) {
                k.queue(NONE);
                note("queue " + one, k.queue(one));
                note("queue " + other, k.queue(other));
                note("order of " + one + " " + other, k.order(false, NONE));
                note("order of " + one + " " + other + ", nuts last", k.order(true, NONE));
            }
        }
    }

    private void packAll() {
        for (int batch = 0; batch < k.about(1); batch++) {
            note("vouch " + batch, k.vouch(batch) ? 1 : 0);
            note("cut " + batch, k.cut(batch, 10 + batch, 2));
        }
        int coats = k.about(1);
        for (int piece = 0; piece < Math.min(k.about(2), 60); piece++) {
            note("dip " + piece, k.dip(piece, coats == 0 ? 0 : piece % coats, 3));
            note("allow " + piece, k.allow(piece) ? 1 : 0);
            note("take " + piece, k.take(piece) ? 1 : 0);
            note("place " + piece, k.place(piece, piece / 24, piece % 24) ? 1 : 0);
        }
        for (int sorts = 1; sorts < 16; sorts++) {
            note("pack " + sorts, k.pack(sorts, 35, 40));
        }
    }
}
