import com.sun.management.ThreadMXBean;
import java.lang.management.ManagementFactory;

/** All calls of a run live in one room: a new object is small, and no call makes anything, however long the run. */
public final class RoomTest {
    private static final Check CHECK = new Check("RoomTest");
    private static final ThreadMXBean ROOM = (ThreadMXBean) ManagementFactory.getThreadMXBean();
    private static final int ROUNDS = 10, CALLS_IN_A_ROUND = 38;
    /** The least object takes 16 bytes: one made in each round would show. */
    private static final long SOME_BYTES = 16 * ROUNDS;
    private static final long BYTES_OF_AN_OBJECT = 6000;
    private static long sum = 0;

    public static void main(String[] args) {
        // Ahead of the count, so that what the machine makes when a call is first made is not counted.
        run(Scene.FULL.make());
        bytes();
        FosterSons full = Scene.FULL.make();
        long ahead = bytes();
        run(full);
        long made = bytes() - ahead;
        CHECK.due("bytes made by " + ROUNDS * CALLS_IN_A_ROUND + " calls: " + made, made < SOME_BYTES ? 1 : 0, 1);
        ahead = bytes();
        FosterSons fresh = new FosterSons();
        long size = bytes() - ahead;
        CHECK.due("bytes of a new object: " + size, size < BYTES_OF_AN_OBJECT ? 1 : 0, 1);
        CHECK.due("the new object", fresh.many(0), 0);
        CHECK.due("the run's answers count", sum == 0 ? 1 : 0, 0);
        CHECK.end();
    }

    private static long bytes() {
        return ROOM.getThreadAllocatedBytes(Thread.currentThread().getId());
    }

    private static void run(FosterSons x) {
        for (int round = 0; round < ROUNDS; round++) {
            sum += changes(x) + questions(x) + rows(x);
        }
    }

    private static long changes(FosterSons x) {
        return x.treaty(0, 0, 4, 56) + x.send(0, 0, 0) + x.send(1, 3, 5) + x.send(2, 0, 0) + x.send(3, 1, 2)
            + x.home(3) + x.send(4, 2, 5) + x.tempt(0, 0, 5) + x.reading(0, 0, true) + x.reading(3, 0, false)
            + x.back(1) + x.treaty(0, 0, 4, 55);
    }

    private static long questions(FosterSons x) {
        return x.least() + x.hole(3) + x.when(4) + x.worths(0) + x.kinds(0) + x.fondness(0) + x.odds(5, 1)
            + x.ofSon(4, 5) + x.gain(3, 5) + x.stake(0, 5) + x.stakes(3, 5) + x.tempted(5) + x.broken(1) + x.tell(2)
            + x.teach(2) + x.as(0, 2) + x.trace() + x.fault() + x.many(3);
    }

    private static long rows(FosterSons x) {
        return x.plan(1, 1, 54, 5, 2) + x.sheet(2, 2, 60) + x.put(2, 59, -1) + x.cell(2, 59, 2)
            + x.copy(0, 0, 3, 0, 60) + x.lose(2) + x.cell(2, 0, 0);
    }
}
