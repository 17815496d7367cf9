import java.lang.management.ManagementFactory;

/** How much room an object takes, and that none of its calls takes more. */
public final class RoomTest {
    private static final Check check = new Check();
    private static final com.sun.management.ThreadMXBean MEMORY =
            (com.sun.management.ThreadMXBean) ManagementFactory.getThreadMXBean();
    private static long sum = 0;

    public static void main(String[] args) {
        for (int i = 0; i < 50; i++) {
            manyCalls(new WhatWasSaid());
        }
        long before = MEMORY.getThreadAllocatedBytes(Thread.currentThread().getId());
        WhatWasSaid x = new WhatWasSaid();
        long made = MEMORY.getThreadAllocatedBytes(Thread.currentThread().getId());
        manyCalls(x);
        long after = MEMORY.getThreadAllocatedBytes(Thread.currentThread().getId());
        System.out.println("bytes of an object: " + (made - before) + ", of its calls: " + (after - made));
        check.holds("an object is small", made - before < 32768);
        check.holds("calls make next to nothing", after - made < 512);
        check.end();
        System.out.println(sum == 0 ? "" : "calls answered");
    }

    private static void manyCalls(WhatWasSaid x) {
        for (int i = 0; i < 16; i++) {
            sum += x.saying(10 * (i % 11) + i % 4, 100 * (i % 3) + 1 + i);
        }
        for (int writer = 0; writer < 4; writer++) {
            for (int i = 0; i < 60; i++) {
                sum += x.feed(i % 2 == 0 ? 'l' : '+');
            }
            sum += x.feed('m');
            sum += x.writer(writer, 7);
        }
        for (int i = 0; i < 10; i++) {
            sum += i % 2 == 0 ? x.take(i % 4, i) : x.told(i % 4, 1023 << i % 6);
        }
        for (int i = 0; i < 8; i++) {
            sum += x.order(i % 16) + x.said(i % 16, 50, 0) + x.whose(i % 10) + x.learnt(1023, 0) + x.ask(0);
            sum += x.fight(i, 0) + x.asleep(i % 10, 1) + x.years(i % 4, i) + x.only() + x.sure(i % 16, 1);
            sum += x.mend(i % 16, 3, 1 + i % 30) + x.undo() + x.redo() + x.body(i % 8) + x.act(i % 50, 3, i);
            sum += x.row(i % 6, i % 5, i) + x.put(i % 6, 0, i) + x.element(i % 6, 0) + x.shift(i % 6, 0, i % 6, 0, 1);
            sum += x.read(i % 10, i % 11) + x.cut(i % 10, 14) + x.strike(i % 10, 3) + x.add(i % 10, i % 16, 0);
        }
    }
}
