import java.lang.management.ManagementFactory;

/** All calls of a run live in one room: an object's rows are made once, and the dearest calls make nothing new. */
public final class RoomTest {
    private static final com.sun.management.ThreadMXBean MEMORY =
        (com.sun.management.ThreadMXBean) ManagementFactory.getThreadMXBean();

    public static void main(String[] args) {
        long thread = Thread.currentThread().getId();
        useAll(new LightLines(), 64);
        long start = MEMORY.getThreadAllocatedBytes(thread);
        LightLines x = new LightLines();
        long made = MEMORY.getThreadAllocatedBytes(thread);
        useAll(x, 512);
        long used = MEMORY.getThreadAllocatedBytes(thread);
        Check.due("a new object takes no more than 100 KB: " + (made - start), made - start <= 100_000 ? 1 : 0, 1);
        Check.due("512 rounds take no more than 100 KB: " + (used - made), used - made <= 100_000 ? 1 : 0, 1);
        Check.end();
    }

    private static int useAll(LightLines x, int rounds) {
        int sum = 0;
        for (int i = 0; i < rounds; i++) {
            sum += x.sheet(0, 2, 40) + x.set(0, 2, 900) + x.set(0, 5, 900 - i) + x.copy(0, 0, 0, 8, 16) + x.stroke(0, 0, 8);
            sum += x.best() + x.rule(0, 9 + i % 2) + x.rule(4, i % 5) + x.zone(i % 4, 5, 5, 70, 70) + x.open((i + 1) % 4);
            sum += x.ticks() + x.tick(9, 7) + x.all(4) + x.burn(1, 1) + x.ask(0, 1) + x.as(0, 3) + x.count(2) + x.drop(0);
            sum += x.feed(0x6174203120646172L, 8) + x.feed(0x6b3b6174L, 4) + x.cues() + x.frame(i, 0) + x.frame(i, 1);
        }
        return sum;
    }
}
