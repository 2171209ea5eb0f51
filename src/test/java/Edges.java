import java.util.function.Supplier;

/** Asks at the edges: what is taken, what is refused, and that a refused call changes nothing. */
final class Edges {
    static final int NONE = SugarKitchen.NONE;
    static final int FALSE = 0;
    private static final int MIN = Integer.MIN_VALUE;
    private static final int MAX = Integer.MAX_VALUE;

    interface Call {
        int on(SugarKitchen k);
    }

    interface Test {
        boolean on(SugarKitchen k);
    }

    interface CallWith {
        int on(SugarKitchen k, int value);
    }

    interface TestWith {
        boolean on(SugarKitchen k, int value);
    }

    private final Due due;

    Edges(Due due) {
        this.due = due;
    }

    /** The call answers NONE, and a kitchen that had it goes on like one that had not. */
    void refused(String what, Supplier<SugarKitchen> from, Call call) {
        refused(what, from, NONE, call);
    }

    /** The call answers false, and a kitchen that had it goes on like one that had not. */
    void denied(String what, Supplier<SugarKitchen> from, Test call) {
        refused(what, from, FALSE, k -> call.on(k) ? 1 : 0);
    }

    private void refused(String what, Supplier<SugarKitchen> from, int want, Call call) {
        due.is(what, want, call.on(from.get()));
        String difference = change(from, call);
        due.is(what + " changes nothing" + (difference.isEmpty() ? "" : " (" + difference + ")"),
                true, difference.isEmpty());
    }

    /** What is other in a kitchen that had the call than in one that had not, or "". */
    static String change(Supplier<SugarKitchen> from, Call call) {
        for (int ticks : new int[] {3, 60}) {
            SugarKitchen asked = from.get();
            SugarKitchen other = from.get();
            call.on(asked);
            String now = Look.difference(Look.at(asked), Look.at(other));
            if (!now.isEmpty()) {
                return now;
            }
            String later = Look.difference(Look.further(asked, ticks), Look.further(other, ticks));
            if (!later.isEmpty()) {
                return later;
            }
        }
        return "";
    }

    /** Values from low to high are taken, those beside and the ends of int are refused by NONE. */
    void range(String what, Supplier<SugarKitchen> from, int low, int high, CallWith call) {
        range(what, from, low, high, NONE, call);
    }

    /** Values from low to high are taken, those beside and the ends of int are refused by false. */
    void ask(String what, Supplier<SugarKitchen> from, int low, int high, TestWith call) {
        range(what, from, low, high, FALSE, (k, value) -> call.on(k, value) ? 1 : 0);
    }

    private void range(String what, Supplier<SugarKitchen> from, int low, int high, int refusal,
            CallWith call) {
        due.is(what + ": the least, " + low + ", is taken", true,
                call.on(from.get(), low) != refusal);
        due.is(what + ": the greatest, " + high + ", is taken", true,
                call.on(from.get(), high) != refusal);
        for (int value : new int[] {low - 1, high + 1, MIN, MIN + 1, MAX - 1, MAX}) {
            refused(what + ": " + value, from, refusal, k -> call.on(k, value));
        }
    }

    /** No value at the ends of int, nor any of these, is taken. */
    void none(String what, Supplier<SugarKitchen> from, CallWith call, int... values) {
        for (int value : values) {
            refused(what + ": " + value, from, k -> call.on(k, value));
        }
        for (int value : new int[] {MIN, MIN + 1, MAX - 1, MAX}) {
            refused(what + ": " + value, from, k -> call.on(k, value));
        }
    }
}
