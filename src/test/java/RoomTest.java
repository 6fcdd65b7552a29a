import java.lang.management.ManagementFactory;

/** All calls of a run live in one room: the object is small, and no call makes anything. */
public final class RoomTest {
    private static final int OBJECT_BYTES = 20000;
    private static final Check CHECK = new Check("RoomTest");

    public static void main(String[] args) {
        com.sun.management.ThreadMXBean threads = (com.sun.management.ThreadMXBean) ManagementFactory.getThreadMXBean();
        if (!threads.isThreadAllocatedMemorySupported()) {
            CHECK.isTrue("not measured on this machine", true);
            CHECK.end();
            return;
        }
        play(new DeadListPool(), 1);
        threads.getCurrentThreadAllocatedBytes();
        long start = threads.getCurrentThreadAllocatedBytes();
        DeadListPool x = new DeadListPool();
        long made = threads.getCurrentThreadAllocatedBytes();
        long sum = play(x, 2);
        long played = threads.getCurrentThreadAllocatedBytes();
        CHECK.isTrue("the object has " + (made - start) + " bytes", made - start < OBJECT_BYTES);
        CHECK.isTrue("the calls made " + (played - made) + " bytes", played - made < 1000);
        CHECK.isTrue("something was answered", sum != 0);
        CHECK.end();
    }

    private static long play(DeadListPool x, int seed) {
        long sum = 0;
        int z = seed;
        for (int i = 0; i < 4000; i++) {
            z = z * 1103515245 + 12345;
            int a = (z >>> 9) % 20;
            z = z * 1103515245 + 12345;
            int b = (z >>> 9) % 20;
            sum += i < 40 ? x.files(a < 3 ? 50 : -1) : change(x, i % 20, a, b) + ask(x, i % 18, a, b);
        }
        return sum;
    }

    private static long change(DeadListPool x, int which, int a, int b) {
        switch (which) {
            case 0: return x.files(a - 1);
            case 1: return x.erase(a, b);
            case 2: return x.snap(a, b % 2);
            case 3: return x.tag(a, b);
            case 4: return x.mark(a);
            case 5: return x.remove(a);
            case 6: return x.fork(a);
            case 7: return x.promote(a);
            case 8: return x.rollback(a);
            case 9: return x.tick();
            case 10: return x.expire(a, b, 3);
            case 11: return x.sheet(a % 5, b % 2, a);
            case 12: return x.cell(a % 5, b, a);
            case 13: return x.differ(a % 5, a, b);
            case 14: return x.apply(a, b % 5, 1);
            case 15: return a < 5 ? x.image() : x.back();
            default: return x.write(a, b, 7);
        }
    }

    private static long ask(DeadListPool x, int which, int a, int b) {
        switch (which) {
            case 0: return x.told(a, b);
            case 1: return x.slot(a, b);
            case 2: return x.block(a, b % 3);
            case 3: return x.taken(a, b % 5);
            case 4: return x.dead(a, b % 3);
            case 5: return x.deadList(a, b);
            case 6: return x.space(a);
            case 7: return x.alone(a);
            case 8: return x.range(a, b);
            case 9: return x.since(a, b);
            case 10: return x.common(a, b);
            case 11: return x.most(a, b % 9);
            case 12: return x.fewest(a, b);
            case 13: return x.item(a % 5, b);
            case 14: return x.drawn(a, 60, b % 4);
            default: return x.count(b % 4);
        }
    }
}
