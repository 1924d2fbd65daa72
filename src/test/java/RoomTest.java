import java.lang.management.ManagementFactory;

/** A run lives in one room: what an object and its dearest calls take is counted here. */
final class RoomTest {
    private static final Check C = new Check();

    public static void main(String[] args) {
        com.sun.management.ThreadMXBean bean = (com.sun.management.ThreadMXBean) ManagementFactory.getThreadMXBean();
        long thread = Thread.currentThread().getId();
        run(true);
        run(false);
        long start = bean.getThreadAllocatedBytes(thread);
        new CloudCalls();
        long made = bean.getThreadAllocatedBytes(thread);
        C.holds("a new object takes " + (made - start) + " bytes", made - start < 30_000);
        long ahead = bean.getThreadAllocatedBytes(thread);
        run(false);
        long behind = bean.getThreadAllocatedBytes(thread);
        C.holds("512 calls that keep nothing take " + (behind - ahead) + " bytes", behind - ahead < 60_000);
        ahead = bean.getThreadAllocatedBytes(thread);
        run(true);
        behind = bean.getThreadAllocatedBytes(thread);
        C.holds("128 laws and as many returns take " + (behind - ahead) + " bytes", behind - ahead < 700_000);
        C.close("RoomTest");
    }

    /** Feeds from numbers, so that the test's own texts take no room. */
    private static void run(boolean laws) {
        CloudCalls x = new CloudCalls();
        for (int i = 0; i < 5; i++) {
            x.cloud(i, 9, i);
            x.folk(i, 31);
            x.road(i, i + 1, 1);
        }
        x.image(0);
        for (int i = 0; i < 128; i++) {
            // "bars" and blanks
            x.feed(0x62617273, 0x20202020, 0x20202020, 0x20202020, 0x20202020);
            if (laws) {
                x.law();
                x.force(0);
                x.back(0);
            } else {
                x.orders();
                x.seasons(i, 60);
                x.answered(3);
                x.part(0, 4, 1);
                x.leave(1);
                x.compare(-1);
                x.again();
                x.image(1);
                x.back(1);
            }
        }
    }
}
