import java.lang.management.ManagementFactory;

/** All calls of a run live in one room: a new object takes little of it, and no call takes any more. */
public final class RoomTest {
    private static final Check check = new Check();
    private static final com.sun.management.ThreadMXBean METER =
        (com.sun.management.ThreadMXBean) ManagementFactory.getThreadMXBean();

    public static void main(String[] args) throws Exception {
        newObjects();
        calls();
        check.end("RoomTest");
    }

    /** Two hundred objects in one run still leave some of its 7.3 million fields and elements. */
    private static void newObjects() throws Exception {
        Room room = new Room(new GasVoyages());
        check.holds("at most 36000 elements: " + room.elements(), room.elements() <= 36000);
        check.holds("at most 100 objects: " + room.objects(), room.objects() <= 100);
    }

    private static void calls() throws Exception {
        GasVoyages v = new GasVoyages();
        // The machine itself makes objects when code is run for the first time, so this is no part of what is measured.
        run(new GasVoyages());
        long still = bytesOfNothing();
        Room before = new Room(v);
        long start = METER.getCurrentThreadAllocatedBytes();
        long answers = run(v);
        long made = METER.getCurrentThreadAllocatedBytes() - start;
        Room after = new Room(v);
        check.due("bytes that 511 calls made", made - still, 0);
        check.due("objects behind them", after.objects(), before.objects());
        check.due("elements behind them", after.elements(), before.elements());
        check.holds("the calls did something", answers != 0);
    }

    private static long bytesOfNothing() {
        long start = METER.getCurrentThreadAllocatedBytes();
        return METER.getCurrentThreadAllocatedBytes() - start;
    }

    private static long run(GasVoyages v) {
        long answers = 0;
        for (int round = 0; round < 10; round++) {
            answers += change(v, round) + ask(v, round % 8);
        }
        return answers + v.land(12, 12);
    }

    private static long change(GasVoyages v, int round) {
        long answers = v.level(round % 8, 14, 400) + v.warmth(round, round - 5);
        for (int level = 1; level <= 7; level++) {
            answers += v.wind(level % 2 == 0, level, round, 23, level % 3 - 1, round % 3 - 1);
        }
        answers += v.fly(round, 5, round, 12, 20, 10) + v.go(round, 1, 2, 12) + v.go(round, 2, 2, 8);
        answers += v.cell(round, 11 - round, round % 3) + v.chaser(11, round, 1 + round % 5);
        return answers + v.lose(round, 3, 15);
    }

    private static long ask(GasVoyages v, int flight) {
        long answers = v.plan(flight, 6, 3, 9, 9) + v.away(flight, 6, 3) + v.order(2) + v.distance(flight);
        for (int what = -1; what <= 10; what++) {
            answers += v.about(flight, what) + v.count(what);
        }
        answers += v.entry(flight, 1, 0) + v.judge(flight) + v.ways(flight, true) + v.ways(flight, false);
        return answers + v.chase(flight, 3, 3) + v.first(flight) + v.record(0) + v.digest();
    }
}
