import java.lang.management.ManagementFactory;

/** All calls of one run live in one room: no call makes an object or an array, and a new object is small. */
public final class RoomTest {
    private static final com.sun.management.ThreadMXBean THREADS =
        (com.sun.management.ThreadMXBean) ManagementFactory.getThreadMXBean();
    private static final int TIMES = 2000;
    private static final int MOST_BYTES_OF_ONE = 24000;

    public static void main(String[] args) {
        // Once ahead, so that what the machine itself makes for a new class isn't counted.
        callAll(new OffOnTheSecond());
        long before = THREADS.getThreadAllocatedBytes(Thread.currentThread().getId());
        long between = THREADS.getThreadAllocatedBytes(Thread.currentThread().getId());
        long asking = between - before;
        OffOnTheSecond x = new OffOnTheSecond();
        long made = THREADS.getThreadAllocatedBytes(Thread.currentThread().getId());
        Checks.holds("a new one takes " + (made - between) + " bytes", made - between <= MOST_BYTES_OF_ONE);
        callAll(x);
        long start = THREADS.getThreadAllocatedBytes(Thread.currentThread().getId());
        for (int i = 0; i < TIMES; i++) {
            callAll(x);
        }
        long end = THREADS.getThreadAllocatedBytes(Thread.currentThread().getId());
        Checks.holds(TIMES + " times all calls took " + (end - start - asking) + " bytes", end - start - asking < TIMES);
        Checks.end();
    }

    private static void callAll(OffOnTheSecond x) {
        for (int i = 0; i < 10; i++) {
            x.item(7 * i + 3, 50 + i);
        }
        x.anew();
        x.itemIs(0, 3);
        x.become(6, 69);
        x.as(6, 3);
        x.truth(0, 51);
        x.shift(1, 3);
        x.clock(0, 600);
        x.feed(0x6B2B70L, 3);
        x.text(0);
        x.feed(0x692A70L, 3);
        x.text(1);
        x.law(0, 1, 2, 3);
        x.over();
        x.fits();
        x.spare();
        x.tuned();
        x.plan(0);
        x.begins(0, 0);
        x.drops(1);
        x.odds(0);
        x.sheet(0, 8, 1);
        x.sums(0, 0);
        x.image();
        x.air(51);
        x.breaks(5);
        x.loose(3);
        x.row(-1);
        x.row(0);
        x.restore();
        x.voice(4, 2, 7);
        x.voice(0, 3, 7);
        x.body(0);
        x.sheet(1, 16, 9);
        x.put(1, 0, 5);
        x.move(1, 0, 1, 1, 3);
        x.truths(1);
        x.judge(1);
        x.tell(1);
        x.check();
        x.count(6);
        x.told(1);
        x.untell(0);
        x.seed(1);
    }
}
