/**
 * The tests at the edges hold two kitchens against each other to show that a refused call changes
 * nothing. That is worth something only if they see what a taken call changes: here they must.
 */
public final class LookTest {
    private static final Due DUE = new Due("LookTest");

    public static void main(String[] args) {
        lotsAndBatches();
        rowsAndRules();
        coatsAndPieces();
        kettle();
        DUE.is("two kitchens alike look alike", true, likeOthers(k -> 0));
        DUE.end();
    }

    private static boolean likeOthers(Edges.Call call) {
        return Edges.change(Kitchens::busy, call).isEmpty();
    }

    private static void seen(String what, Edges.Call call) {
        DUE.is(what + " is taken", true, call.on(Kitchens.busy()) != SugarKitchen.NONE);
        DUE.is(what + " is seen", false, likeOthers(call));
    }

    private static void seenTest(String what, Edges.Test call) {
        seen(what, k -> call.on(k) ? 1 : SugarKitchen.NONE);
    }

    private static void lotsAndBatches() {
        seen("lot", k -> k.lot(0, 0));
        seen("batch", k -> k.batch(0));
        seen("put", k -> k.put(9, 2, 1));
        seen("cook", k -> k.cook(4, 3));
        seenTest("vouch", k -> k.vouch(6));
    }

    private static void rowsAndRules() {
        for (int which = 0; which < 2; which++) {
            int of = which;
            seenTest("row " + which, k -> k.row(5, of, 2 - of));
            seenTest("row " + which + " is MISSING", k -> k.row(5, of, SugarKitchen.NONE));
        }
        for (int place = 1; place < 5; place++) {
            int at = place;
            seenTest("tick " + place, k -> k.tick(4, at, Kitchens.bits(500f)));
        }
        seenTest("stir", k -> k.stir(4, 3, true));
        seenTest("stir no", k -> k.stir(5, 1, false));
        seen("table", k -> k.table(1200, 0));
        seenTest("grain", k -> k.grain(640, 640));
        for (int kind = 0; kind < 6; kind++) {
            int of = kind;
            seenTest("bounds " + kind, k -> k.bounds(of, 901, 902));
        }
    }

    private static void coatsAndPieces() {
        int[] at = {450, 270, 310, 320, 290, 2};
        for (int i = 0; i < 6; i++) {
            int[] t = at.clone();
            t[i]++;
            seenTest("temper " + i, k -> k.temper(t[0], t[1], t[2], t[3], t[4], t[5]));
        }
        seen("heat", k -> k.heat(3, 270));
        seen("heat, another one", k -> k.heat(3, 300));
        seen("cut", k -> k.cut(0, 10, 1));
        seen("dip", k -> k.dip(3, 2, 1));
        seenTest("place", k -> k.place(3, 3, 3));
        seenTest("take", k -> k.take(2));
        seenTest("allow", k -> k.allow(2));
        seen("pack", k -> k.pack(1, 100, 0));
    }

    private static void kettle() {
        for (int from = 0; from < 6; from++) {
            for (int to = 0; to < 6; to++) {
                int one = from;
                int other = to;
                seenTest("wash " + from + " " + to, k -> k.wash(one, other, 0));
            }
        }
        seen("queue", k -> k.queue(0));
        seen("queue emptied", k -> k.queue(SugarKitchen.NONE));
    }
}
