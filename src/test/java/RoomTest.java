import com.sun.management.ThreadMXBean;
import java.lang.management.ManagementFactory;

/** All calls live in one room, so the dearest runs may not make much. */
public final class RoomTest {
    private static final ThreadMXBean THREADS =
            (ThreadMXBean) ManagementFactory.getThreadMXBean();
    private static int sink;

    public static void main(String[] args) {
        Due due = new Due("RoomTest");
        dearRun();
        long before = made();
        SugarKitchen kitchen = new SugarKitchen();
        long bare = made() - before;
        sink += kitchen.about(0);
        before = made();
        dearRun();
        long dear = made() - before;
        System.out.println("RoomTest: a new object makes " + bare + " bytes, a dear run " + dear);
        due.is("a new object makes at most 10,000 bytes", true, bare <= 10000);
        due.is("a dear run makes at most 250,000 bytes", true, dear <= 250000);
        due.is("something was measured", true, bare > 0);
        due.end();
    }

    private static long made() {
        return THREADS.getThreadAllocatedBytes(Thread.currentThread().getId());
    }

    /** All 600 pieces, all trays full, and then nothing but the dearest calls. */
    private static void dearRun() {
        SugarKitchen k = new SugarKitchen();
        k.lot(1000000, 1);
        for (int i = 0; i < 40; i++) {
            k.batch(i % 6);
        }
        k.put(3, 0, 900000);
        k.cook(3, 1);
        k.vouch(3);
        for (int i = 0; i < 8; i++) {
            k.cut(3, 11 + 17 * i, 99);
        }
        for (int i = 0; i < 144; i++) {
            k.place(i * 4, i / 24, i % 24);
        }
        for (int i = 0; i < 10; i++) {
            k.queue(i);
        }
        for (int i = 0; i < 60; i++) {
            sink += k.would(15, 50 + i, i, 2);
            sink += k.would(15, 50 + i, i, 3);
            sink += k.would(15, 8000, 500, 0);
            sink += k.wash(i % 6, 1, i) ? 1 : 0;
            sink += k.order(i % 2 == 0, 3);
        }
        for (int i = 0; i < 20; i++) {
            sink += k.pack(15, 100, 10);
        }
    }
}
