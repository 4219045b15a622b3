import java.lang.management.ManagementFactory;

/** All calls of a run live in one room: a new object is small, and its calls make nothing. */
public final class RoomTest {
    private static final Due DUE = new Due("RoomTest");
    private static final com.sun.management.ThreadMXBean THREADS =
            (com.sun.management.ThreadMXBean) ManagementFactory.getThreadMXBean();
    private static final String WIDE = "widow 9 3;miser 40 5;squire 20 2;plain 3 4;miser 8 1;"
            + "owes 0 1 40;owes 1 2 50;owes 2 3 60;owes 3 4 30;owes 4 0 20;owes 1 0 9;owes 4 2 9;dry 1;";

    public static void main(String[] args) {
        long first = calls(Due.told(WIDE));
        DebtRides x = Due.told(WIDE);
        long before = made();
        for (int i = 0; i < 25; i++) {
            DUE.is("the same calls, the same answers", calls(x), first);
        }
        DUE.is("bytes made by some 1000 calls, in steps of 4096", (made() - before) / 4096, 0);
        before = made();
        DebtRides[] many = new DebtRides[100];
        for (int i = 0; i < many.length; i++) {
            many[i] = new DebtRides();
        }
        // 1,200 objects of this size and all their fields are still a small part of the room.
        DUE.is("bytes of a new object, in steps of 12288", (made() - before) / many.length / 12288, 0);
        DUE.close();
    }

    private static long made() {
        return THREADS.getThreadAllocatedBytes(Thread.currentThread().getId());
    }

    private static long calls(DebtRides x) {
        long s = x.end(0);
        for (int i = 0; i < WIDE.length(); i++) {
            s += x.feed(WIDE.charAt(i));
        }
        s += x.text() + x.fault() + x.rule(3) + x.one(0, 5) + x.owes(0, 1) + x.meet(0, 1);
        s += x.alter(0, 1, 20) + x.bond(0, 2, 9) + x.dry(1) + x.lend(1, 0, 3) + x.pay(0, 1, 2) + x.days(1);
        s += x.runs(60, 0) + x.runs(60, 3) + x.ahead(0, 60, 1) + x.rides(0) + x.net(0) + x.least() + x.ring(0);
        s += x.give(40, 0) + x.forgive(0) + x.kind(0, 0) + x.late(0, 9) + x.train(60, 0);
        s += x.luck(5, 0, 8, 0) + x.mean(5, 8, 1) + x.see(30, 0, true) + x.kinds(1) + x.earns(0) + x.ask(0, 0);
        s += x.drift(7, 60, 0) + x.keep(0) + x.clear() + x.back(0) + x.forget(0);
        s += x.sheet(0, 0, 40) + x.lay(0, 1, 1) + x.lay(0, 2, 1) + x.read(0, 0, 0, 1) + x.read(0, 1, 0, 13) + x.torn() + x.count(4);
        return s;
    }
}
