/** Promises 18 to 23: chaser, chase, first, record, count, digest. */
public final class ChasersRecordsTest {
    private static final Check check = new Check();

    public static void main(String[] args) {
        chasers();
        chaseRefusals();
        pace();
        aroundWater();
        closedIsNoBar();
        firstChaser();
        records();
        recordsNeedClear();
        recordOfLikeOnes();
        counts();
        digests();
        check.end("ChasersRecordsTest");
    }

    private static void chasers() {
        GasVoyages v = new GasVoyages();
        v.cell(1, 1, 1);
        v.cell(2, 2, 2);
        int[][] bad = {{-1, 0, 1}, {12, 0, 1}, {0, -1, 1}, {0, 12, 1}, {0, 0, 0}, {0, 0, 6}, {1, 1, 0}};
        for (int[] b : bad) {
            check.due("bad chaser", v.chaser(b[0], b[1], b[2]), -2);
        }
        check.due("water", v.chaser(1, 1, 1), -3);
        check.due("closed", v.chaser(2, 2, 5), 0);
        check.due("on the same cell", v.chaser(2, 2, 1), 1);
        check.due("third", v.chaser(0, 0, 1), 2);
        check.due("fourth", v.chaser(11, 11, 1), 3);
        check.due("fifth", v.chaser(3, 3, 1), -4);
        check.due("water comes before full", v.chaser(1, 1, 1), -3);
        check.due("bad comes before water", v.chaser(1, 1, 6), -2);
        check.due("count", v.count(4), 4);
    }

    private static void chaseRefusals() {
        GasVoyages v = new GasVoyages();
        check.due("no chaser", v.chase(0, 0, 0), -2);
        v.chaser(0, 0, 1);
        int[][] bad = {{-1, 0, 0}, {1, 0, 0}, {4, 0, 0}, {0, -1, 0}, {0, 12, 0}, {0, 0, -1}, {0, 0, 12},
            {Integer.MAX_VALUE, 0, 0}};
        for (int[] b : bad) {
            check.due("bad chase", v.chase(b[0], b[1], b[2]), -2);
        }
        v.fly(0, 0, 0, 1, 1, 1);
        check.due("bad first", v.first(1), -2);
        check.due("bad first", v.first(-1), -2);
    }

    private static void pace() {
        GasVoyages v = new GasVoyages();
        v.land(24, 4);
        for (int p = 2; p <= 5; p++) {
            v.chaser(0, 0, p);
        }
        for (int p = 2; p <= 5; p++) {
            for (int x = 0; x < 24; x++) {
                check.due("pace " + p + " to " + x, v.chase(p - 2, x, 0), (x + p - 1) / p);
            }
        }
        check.due("side by side, not aslant", v.chase(0, 1, 1), 1);
        check.due("four steps", v.chase(0, 2, 2), 2);
        check.due("chasing moves none", v.chase(0, 0, 0), 0);
    }

    private static void aroundWater() {
        GasVoyages v = new GasVoyages();
        v.land(5, 5);
        v.chaser(0, 0, 1);
        for (int y = 0; y < 4; y++) {
            v.cell(2, y, 1);
        }
        check.due("around", v.chase(0, 4, 0), 12);
        check.due("onto water", v.chase(0, 2, 0), -1);
        v.cell(2, 4, 1);
        check.due("cut off", v.chase(0, 4, 0), -1);
        check.due("this side", v.chase(0, 1, 4), 5);
        v.cell(2, 0, 0);
        check.due("through the gap", v.chase(0, 4, 0), 4);
    }

    private static void closedIsNoBar() {
        GasVoyages v = new GasVoyages();
        v.land(4, 4);
        v.chaser(0, 0, 1);
        for (int y = 0; y < 4; y++) {
            v.cell(1, y, 2);
        }
        check.due("through closed cells", v.chase(0, 3, 0), 3);
        check.due("onto one", v.chase(0, 1, 0), 1);
    }

    private static void firstChaser() {
        GasVoyages v = new GasVoyages();
        v.fly(6, 6, 0, 13, 10, 0);
        check.due("no chasers", v.first(0), -1);
        v.chaser(0, 6, 1);
        check.due("the only one", v.first(0), 0);
        v.chaser(6, 9, 2);
        check.due("fewer ticks", v.first(0), 1);
        v.chaser(6, 8, 1);
        check.due("like ticks, though fewer steps: the least number", v.first(0), 1);
        v.wind(true, 1, 0, 0, 0, 2);
        v.go(0, 0, 1, 1);
        check.due("where it is now", v.first(0), 2);
        v.cell(6, 8, 2);
        check.due("closed is no bar", v.first(0), 2);
        v.fly(3, 3, 0, 1, 1, 1);
        v.cell(3, 3, 1);
        check.due("above water none can", v.first(1), -1);
        v.cell(5, 6, 1);
        v.cell(0, 5, 1);
        v.cell(1, 6, 1);
        v.cell(0, 7, 1);
        check.due("one that is cut off", v.chase(0, 6, 8), -1);
        check.due("is not first", v.first(0), 2);
    }

    /** FLIGHTS that go some ticks by a wind of one step and land. */
    private static void flyFar(GasVoyages v, int y, int ticks) {
        int flight = v.fly(0, y, 0, 13, 10, 0);
        if (ticks > 0) {
            v.go(flight, 0, 1, ticks);
        }
        v.go(flight, 2, 50, 1);
    }

    private static void records() {
        GasVoyages v = new GasVoyages();
        v.wind(true, 1, 0, 23, 1, 0);
        check.due("none", v.record(0), -1);
        flyFar(v, 0, 3);
        flyFar(v, 1, 5);
        flyFar(v, 2, 0);
        v.fly(0, 3, 0, 13, 10, 0);
        v.go(3, 0, 1, 9);
        flyFar(v, 4, 4);
        int[] due = {1, 4, 0, 2, -1, -1, -1, -1, -1};
        for (int k = 0; k < due.length; k++) {
            check.due("record " + k, v.record(k), due[k]);
        }
        check.due("far beyond", v.record(Integer.MAX_VALUE), -1);
        check.due("bad", v.record(-1), -2);
        check.due("bad", v.record(Integer.MIN_VALUE), -2);
        v.go(3, 2, 50, 1);
        check.due("it landed now", v.record(0), 3);
        check.due("the others follow", v.record(1), 1);
    }

    private static void recordsNeedClear() {
        GasVoyages v = new GasVoyages();
        v.wind(true, 1, 0, 23, 1, 0);
        flyFar(v, 0, 3);
        flyFar(v, 1, 5);
        v.cell(2, 1, 2);
        check.due("a breach has no record", v.record(0), 0);
        check.due("a breach has no record", v.record(1), -1);
        v.cell(2, 1, 0);
        check.due("clear again", v.record(0), 1);
        v.lose(1, 6, 6);
        v.cell(6, 1, 2);
        check.due("doubt", v.judge(1), 1);
        check.due("a doubt has no record", v.record(0), 0);
        v.cell(6, 1, 0);
        check.due("a loss alone is no bar", v.record(0), 1);
        v.wind(true, 1, 1, 1, 0, 0);
        check.due("no ways", v.ways(0, false), 0);
        check.due("without ways none is clear", v.record(0), -1);
    }

    private static void recordOfLikeOnes() {
        GasVoyages v = new GasVoyages();
        v.wind(true, 1, 0, 3, 1, 0);
        v.wind(true, 1, 10, 12, 1, 0);
        flyFar(v, 0, 6);
        flyFar(v, 1, 4);
        flyFar(v, 2, 5);
        flyFar(v, 3, 4);
        int late = v.fly(0, 4, 10, 13, 10, 0);
        v.go(late, 0, 1, 3);
        v.go(late, 2, 50, 1);
        // A later TICK, but fewer of them, at a lesser DISTANCE; then one farther.
        int[] due = {1, 3, 2, 0, 4, -1};
        for (int k = 0; k < due.length; k++) {
            check.due("like ones: record " + k, v.record(k), due[k]);
        }
        ticksAreThoseDone();
    }

    private static void ticksAreThoseDone() {
        GasVoyages v = new GasVoyages();
        v.wind(true, 1, 0, 0, 1, 0);
        v.wind(true, 1, 20, 20, 1, 0);
        flyFar(v, 0, 2);
        int late = v.fly(0, 1, 20, 13, 10, 0);
        v.go(late, 0, 1, 1);
        v.go(late, 2, 50, 1);
        check.due("fewer ticks, though a later hour", v.record(0), 1);
        check.due("more ticks", v.record(1), 0);
    }

    private static void counts() {
        GasVoyages v = new GasVoyages();
        v.land(7, 9);
        flyFar(v, 0, 2);
        v.fly(1, 1, 0, 13, 10, 0);
        v.fly(1, 1, 0, 13, 10, 0);
        v.go(1, 0, 1, 4);
        v.lose(0, 1, 1);
        v.lose(1, 3, 9);
        v.chaser(0, 0, 1);
        v.cell(6, 8, 2);
        v.cell(5, 8, 2);
        v.cell(4, 8, 1);
        int[] due = {7, 9, 3, 2, 1, 2, 3};
        for (int what = 0; what < due.length; what++) {
            check.due("count " + what, v.count(what), due[what]);
        }
        check.due("bad", v.count(7), -2);
        check.due("bad", v.count(-1), -2);
        check.due("bad", v.count(Integer.MIN_VALUE), -2);
    }

    private static void digests() {
        GasVoyages v = new GasVoyages();
        check.due("new", v.digest(), digestOf(v, new int[0]));
        v.wind(true, 2, 0, 23, 1, 1);
        v.fly(3, 4, 5, 20, 100, 30);
        v.fly(1, 2, 23, 200, 10, 0);
        v.go(0, 0, 1, 5);
        v.go(1, 0, 1, 5);
        v.lose(0, 2, 3);
        v.cell(4, 4, 2);
        v.chaser(9, 8, 3);
        v.chaser(7, 6, 1);
        check.due("with flights and chasers", v.digest(), digestOf(v, new int[] {9, 8, 7, 6}));
        check.due("asked again", v.digest(), digestOf(v, new int[] {9, 8, 7, 6}));
    }

    private static long digestOf(GasVoyages v, int[] chasersAt) {
        long h = 163;
        for (int what = 0; what < 7; what++) {
            h = 31 * h + v.count(what);
        }
        for (int f = 0; f < v.count(2); f++) {
            for (int what = 0; what < 10; what++) {
                h = 31 * h + v.about(f, what);
            }
            for (int i = 0; i < v.about(f, 7); i++) {
                for (int what = 0; what < 3; what++) {
                    h = 31 * h + v.entry(f, i, what);
                }
            }
        }
        for (int at : chasersAt) {
            h = 31 * h + at;
        }
        return h;
    }
}
