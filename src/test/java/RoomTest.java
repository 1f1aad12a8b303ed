import java.lang.management.ManagementFactory;

/** The rows are made by the constructor and used again: no call makes an object. */
public final class RoomTest {
    private static final int ROUNDS = 200;

    /** Some 5,000 numbers and some headers of arrays. */
    private static final long BYTES_OF_AN_OBJECT = 40_000;

    private static long sum = 0;

    public static void main(String[] args) {
        com.sun.management.ThreadMXBean threads = (com.sun.management.ThreadMXBean) ManagementFactory.getThreadMXBean();
        long self = Thread.currentThread().getId();
        long ofMaking = Long.MAX_VALUE;
        long ofCalls = Long.MAX_VALUE;
        for (int i = 0; i < ROUNDS; i++) {
            long start = threads.getThreadAllocatedBytes(self);
            HiveBylaws x = new HiveBylaws();
            long made = threads.getThreadAllocatedBytes(self);
            calls(x);
            long end = threads.getThreadAllocatedBytes(self);
            ofMaking = Math.min(ofMaking, made - start);
            ofCalls = Math.min(ofCalls, end - made);
        }
        System.out.println("bytes of an object: " + ofMaking + ", of its calls: " + ofCalls);
        Check.holds("an object is small", ofMaking > 0 && ofMaking < BYTES_OF_AN_OBJECT);
        Check.due("bytes that calls make", ofCalls, 0);
        Check.end();
    }

    private static void calls(HiveBylaws x) {
        sum += x.set(0, 0) + x.set(1, 1);
        for (int i = 0; i < 13; i++) {
            sum += x.come(i % 6, 1 + i % 9);
        }
        for (int i = 0; i < 12; i++) {
            sum += x.petition(i, i % 2 == 0 ? 6 : i % 6, i % 4, i % 3) + x.second(i, 0) + x.move(i, 0);
            sum += x.reason(0) + x.lacks(0) + x.heard(i) + x.drone(i, 3) + x.petitionOf(i, 4) + x.oldest(i, 0);
        }
        for (int i = 0; i < 16; i++) {
            sum += x.wouldPass() + x.free() + x.count(i) + x.rule(0, i, 2) + x.bylaw(i, 5);
        }
        sum += x.keep() + x.pass(99);
        for (int i = 0; i < 15; i++) {
            sum += x.type('.') + x.type('9') + x.type('9') + x.type(i < 14 ? ';' : '9');
        }
        sum += x.perform() + x.stopped(0) + x.restore() + x.undo() + x.clearText() + x.perform();
    }
}
