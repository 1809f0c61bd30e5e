import java.lang.management.ManagementFactory;

/** Calls make nothing, and end soon for a village that is as large as can be. */
final class RoomTest {
    private static final Checks CHECKS = new Checks();
    private static final String LARGEST = "keep 5;fuel 999;" + "family 3 flour 999 bread 9 9 9 9 9 wish 1;".repeat(10)
            + "oven 5;oven 4;oven 6;";

    public static void main(String[] args) {
        NeverHalf x = Checks.told(LARGEST);
        for (int i = 0; i < 3; i++) {
            everyCall(x);
        }
        com.sun.management.ThreadMXBean bean =
                (com.sun.management.ThreadMXBean) ManagementFactory.getThreadMXBean();
        long thread = Thread.currentThread().getId();
        bean.getThreadAllocatedBytes(thread);
        long before = bean.getThreadAllocatedBytes(thread);
        long asking = bean.getThreadAllocatedBytes(thread) - before;
        before = bean.getThreadAllocatedBytes(thread);
        for (int i = 0; i < 20; i++) {
            everyCall(x);
        }
        long made = bean.getThreadAllocatedBytes(thread) - before - asking;
        CHECKS.holds("bytes made by calls: " + made, made < 1000);
        constructor(bean, thread);
        CHECKS.finish();
    }

    /** Some hundreds of objects must fit into a room of 7.3 million elements. */
    private static void constructor(com.sun.management.ThreadMXBean bean, long thread) {
        long before = bean.getThreadAllocatedBytes(thread);
        NeverHalf x = new NeverHalf();
        long made = bean.getThreadAllocatedBytes(thread) - before + x.count(0);
        CHECKS.holds("bytes made by the constructor: " + made, made < 100_000);
    }

    private static void everyCall(NeverHalf x) {
        x.restore(0);
        x.image(0);
        x.feed(0x66756565, 0, 0, 0, 0);
        x.village(20);
        x.fault(0);
        x.wish(0, 1);
        x.mill(0, 9);
        x.quarrel(0, 1);
        x.fallOut(0, 1);
        x.fallOut(0, 1);
        x.numbers(0, 1, 10);
        x.copy(0);
        x.write(0, 0, 1);
        x.judge(0, 0);
        x.perform(0);
        x.fire(0, 0);
        x.fireWishes(0, 31);
        x.restore(0);
        x.drawn(1, 1);
        x.day();
        x.lasts(0);
        x.canBake(1999);
        x.fires(1999);
        x.ways(1999);
        x.gap();
        x.upTo(1899);
        groups(x);
        x.lend(0, 1, 3);
        x.lend(1, 2, 2);
        x.lend(2, 0, 1);
        x.owed(0, 1);
        x.ring(0);
        x.payments();
        x.clear();
        x.ahead(7, 0);
        x.enough(7);
        x.marry(0, 1);
        x.restore(0);
        x.count(5);
        x.family(0, 2);
        x.oven(0);
    }

    private static void groups(NeverHalf x) {
        CHECKS.due("groups", 252, x.group(0, -1));
        x.group(1, 100);
        x.fills(31);
        CHECKS.due("served", 10, x.served(0));
        CHECKS.due("stones", 2, x.stones(0, 0));
        x.leaves(0, 31);
        x.stable(1, -1);
        CHECKS.due("better", -1, x.better(0));
        x.wish(8, 0);
        x.wish(9, 0);
        CHECKS.due("parted", 35, x.parted());
        x.together(0);
        x.wish(8, 1);
        x.wish(9, 1);
    }
}
