import java.lang.management.ManagementFactory;

/** A run's calls share one room: the dearest ones make next to nothing. */
public final class RoomTest {
    private static final String SIX = "pb60d1k2f1;pb50d3k3f2h7;pb70d2f0;pb65d9k1;pb80f5h3;pd4k2;mb55";

    private final Check check = new Check();

    public static void main(String[] args) {
        RoomTest test = new RoomTest();
        test.ask(Check.town(SIX));
        BorrowedBeat x = Check.town(SIX);
        Check.give(x, 1, "y:(o<3)&!d=5?o+w;y:[m-n]/7");
        x.set(0, 0);
        x.set(1, 30);
        long before = bytes();
        test.ask(x);
        test.check.due("bytes made by 500 calls are few", bytes() - before < 400000, true);
        before = bytes();
        BorrowedBeat[] many = new BorrowedBeat[100];
        for (int i = 0; i < many.length; i++) {
            many[i] = new BorrowedBeat();
        }
        test.check.due("bytes of an object are few", bytes() - before < 100 * 20000, true);
        test.check.due("the last of them", many[99].count(6), 9);
        test.check.close("RoomTest");
    }

    private static long bytes() {
        return ((com.sun.management.ThreadMXBean) ManagementFactory.getThreadMXBean()).getThreadAllocatedBytes(Thread.currentThread().getId());
    }

    private void ask(BorrowedBeat x) {
        long sum = 0;
        for (int i = 0; i < 20; i++) {
            sum += x.week(i % 2) + x.odds(i % 6, 6) + x.paid(i % 6) + x.fits(i % 6) + x.marks(i % 2) + x.settle(i % 2);
            sum += x.leader(i % 6, 0) + x.tune(i % 6, 0) + x.gift(0) + x.echoes(0) + x.worst(0) + x.place(0, i % 6);
            sum += x.middle() + x.ends(0) + x.stray(i % 6, 1) + x.time(i % 6, 5, 1) + x.last(3) + x.day(i % 6) + x.damp(999);
            sum += x.undo() + x.overtakes(0, 1) + x.deaf(i % 6) + x.ring(0) + x.head(3) + x.day(BorrowedBeat.NONE);
        }
        check.due("asked", sum != 0, true);
    }
}
