import java.lang.management.ManagementFactory;

/** All calls of a run live in one room: the dearest runs of 512 calls must make little. */
public final class RoomTest {
    private static final int CALLS = 512;
    // An element takes eight bytes at most; the room has 7.3 million of them.
    private static final long MOST_BYTES = 1000000;
    private static final Check check = new Check();

    interface Run {
        void on(PayLedger x);
    }

    public static void main(String[] args) {
        for (int i = 0; i < 3; i++) {
            little("pays of ten workers", RoomTest::pays);
            little("corrections of sixty pays", RoomTest::corrections);
            little("asking", RoomTest::asking);
            little("years", RoomTest::years);
        }
        check.end("RoomTest");
    }

    private static void little(String what, Run run) {
        com.sun.management.ThreadMXBean bean =
                (com.sun.management.ThreadMXBean) ManagementFactory.getThreadMXBean();
        long before = bean.getThreadAllocatedBytes(Thread.currentThread().getId());
        run.on(new PayLedger());
        long made = bean.getThreadAllocatedBytes(Thread.currentThread().getId()) - before;
        check.dueTrue(what + " made " + made + " bytes", made <= MOST_BYTES);
    }

    private static void begin(PayLedger x) {
        x.table();
        x.stage(0, 0, 100000);
        for (int i = 0; i < 8; i++) {
            x.deduction(i % 2 == 0, i % 3, 1000, PayLedger.NONE, 100000);
        }
        for (int i = 0; i < 10; i++) {
            x.employ(0, 12, 1);
        }
    }

    private static void pays(PayLedger x) {
        begin(x);
        for (int i = 20; i < CALLS; i++) {
            x.pay(i % 10, i, i % 7 == 0);
        }
    }

    private static void corrections(PayLedger x) {
        begin(x);
        for (int i = 0; i < 60; i++) {
            x.pay(0, i, false);
        }
        for (int i = 80; i < CALLS; i++) {
            x.correct(0, 0, i);
        }
    }

    private static void asking(PayLedger x) {
        begin(x);
        for (int i = 20; i < CALLS; i++) {
            x.ask(i % 10, i, false);
        }
    }

    private static void years(PayLedger x) {
        begin(x);
        for (int year = 0; year < 6; year++) {
            for (int i = 0; i < 60; i++) {
                x.pay(year, i, false);
            }
            x.close();
        }
    }
}
