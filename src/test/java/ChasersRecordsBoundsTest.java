import java.math.BigInteger;

/** Boundary cases of promises 18 to 23, beside those of RangesTest and RefusalsTest. */
public final class ChasersRecordsBoundsTest {
    private static final Check check = new Check();

    public static void main(String[] args) {
        fourChasers();
        chasersInTheCorners();
        ticksByPace();
        whereItStands();
        theLongestWay();
        cutOff();
        sideBySideAlone();
        firstOfNone();
        firstOfLikeOnes();
        firstWhereTheFlightIs();
        recordOfNone();
        recordsOfEight();
        recordOfLandedAlone();
        recordOfClearAlone();
        recordsByTicksThenNumber();
        recordsByOneOfDistance();
        countsAtTheirLeast();
        countsAtTheirGreatest();
        digestOfNothing();
        digestWrapsAround();
        check.end("ChasersRecordsBoundsTest");
    }

    /** "CHASERS 0 .. 3, as they come"; "FULL: 4". */
    private static void fourChasers() {
        GasVoyages v = new GasVoyages();
        for (int c = 0; c < 4; c++) {
            check.due("not there yet", v.chase(c, 0, 0), -2);
            check.due("chaser", v.chaser(c, c, c + 1), c);
            check.due("as many", v.count(4), c + 1);
        }
        check.due("the fifth", v.chaser(5, 5, 1), -4);
        check.due("four", v.count(4), 4);
        check.due("no chaser 4", v.chase(4, 0, 0), -2);
        // 11 - c steps at PACE c + 1.
        int[] ticks = {11, 5, 3, 2};
        for (int c = 0; c < 4; c++) {
            check.due("the numbers of chaser " + c, v.chase(c, 11, c), ticks[c]);
        }
    }

    private static void chasersInTheCorners() {
        GasVoyages v = new GasVoyages();
        v.land(4, 24);
        int[][] corners = {{0, 0}, {3, 0}, {0, 23}, {3, 23}};
        for (int c = 0; c < 4; c++) {
            check.due("chaser", v.chaser(corners[c][0], corners[c][1], 1), c);
        }
        for (int c = 0; c < 4; c++) {
            for (int to = 0; to < 4; to++) {
                int steps = Math.abs(corners[c][0] - corners[to][0]) + Math.abs(corners[c][1] - corners[to][1]);
                check.due("from " + c + " to " + to, v.chase(c, corners[to][0], corners[to][1]), steps);
            }
        }
    }

    /** "go in a TICK up to PACE steps (1 .. 5)": just as many TICKS' steps, and one step more. */
    private static void ticksByPace() {
        for (int pace = 1; pace <= 5; pace++) {
            GasVoyages v = new GasVoyages();
            v.land(24, 4);
            v.chaser(0, 0, pace);
            for (int ticks = 0; ticks * pace <= 22; ticks++) {
                check.due("pace " + pace + ", the last step", v.chase(0, ticks * pace, 0), ticks);
                check.due("pace " + pace + ", one step more", v.chase(0, ticks * pace + 1, 0), ticks + 1);
            }
        }
    }

    private static void whereItStands() {
        GasVoyages v = new GasVoyages();
        v.chaser(5, 5, 1);
        check.due("no tick", v.chase(0, 5, 5), 0);
        v.cell(5, 5, 2);
        check.due("closed", v.chase(0, 5, 5), 0);
        int[][] besides = {{4, 5}, {6, 5}, {5, 4}, {5, 6}};
        for (int[] b : besides) {
            v.cell(b[0], b[1], 1);
            check.due("on water", v.chase(0, b[0], b[1]), -1);
        }
        check.due("shut in", v.chase(0, 5, 5), 0);
        check.due("can't come out", v.chase(0, 4, 4), -1);
    }

    /** Walls of WATER with a gap at one end each: 298 steps. */
    private static void theLongestWay() {
        GasVoyages v = new GasVoyages();
        v.land(24, 24);
        for (int x = 1; x <= 21; x += 2) {
            int gap = x % 4 == 1 ? 23 : 0;
            for (int y = 0; y < 24; y++) {
                if (y != gap) {
                    v.cell(x, y, 1);
                }
            }
        }
        for (int pace = 1; pace <= 5; pace += 4) {
            v.chaser(0, 0, pace);
        }
        check.due("pace 1", v.chase(0, 22, 0), 298);
        check.due("pace 5", v.chase(1, 22, 0), 60);
        v.cell(1, 23, 1);
        check.due("the first gap shut", v.chase(0, 22, 0), -1);
        check.due("this side of it", v.chase(0, 0, 23), 23);
    }

    /** "NONE: it can't come there." */
    private static void cutOff() {
        GasVoyages v = new GasVoyages();
        v.land(4, 4);
        v.chaser(0, 0, 5);
        int[][] wall = {{3, 0}, {2, 1}, {1, 2}};
        for (int[] c : wall) {
            v.cell(c[0], c[1], 1);
        }
        check.due("one gap is left", v.chase(0, 3, 3), 2);
        v.cell(0, 3, 1);
        check.due("none is left", v.chase(0, 3, 3), -1);
        v.cell(0, 3, 2);
        check.due("a closed one is a gap", v.chase(0, 3, 3), 2);
    }

    /** "to CELLS side by side": not by corners, nor from the end of a row to the next. */
    private static void sideBySideAlone() {
        GasVoyages v = new GasVoyages();
        v.land(24, 4);
        v.chaser(23, 0, 1);
        check.due("the next row's first", v.chase(0, 0, 1), 24);
        check.due("by a corner", v.chase(0, 22, 1), 2);
        v.cell(22, 0, 1);
        v.cell(23, 1, 1);
        check.due("not by the corner", v.chase(0, 22, 1), -1);
        check.due("nor around the end", v.chase(0, 0, 1), -1);
    }

    /** "NONE: none can." */
    private static void firstOfNone() {
        GasVoyages v = new GasVoyages();
        v.fly(5, 5, 0, 13, 10, 0);
        check.due("no chasers", v.first(0), -1);
        for (int c = 0; c < 4; c++) {
            v.chaser(0, 0, c + 1);
        }
        check.due("the fastest", v.first(0), 3);
        v.cell(5, 5, 1);
        check.due("it is above water", v.first(0), -1);
        v.cell(5, 5, 2);
        check.due("it is above a closed cell", v.first(0), 3);
        v.cell(1, 0, 1);
        v.cell(0, 1, 1);
        check.due("none can come out", v.first(0), -1);
        v.fly(0, 0, 0, 13, 10, 0);
        check.due("where they stand themselves", v.first(1), 0);
    }

    /** "of like ones the least number": like ones need as many TICKS, though not as many steps. */
    private static void firstOfLikeOnes() {
        GasVoyages v = new GasVoyages();
        v.fly(6, 6, 0, 13, 10, 0);
        v.chaser(6, 0, 5);
        v.chaser(6, 2, 2);
        v.chaser(6, 4, 1);
        v.chaser(4, 6, 1);
        check.due("two ticks each", v.first(0), 0);
        for (int c = 0; c < 4; c++) {
            check.due("ticks of " + c, v.chase(c, 6, 6), 2);
        }
        v.wind(true, 1, 0, 0, 0, -1);
        v.go(0, 0, 1, 1);
        check.due("one step nearer, one tick fewer", v.first(0), 0);
        v.wind(true, 1, 1, 1, -1, 1);
        v.go(0, 0, 1, 1);
        check.due("beside the last one", v.first(0), 3);
    }

    private static void firstWhereTheFlightIs() {
        GasVoyages v = new GasVoyages();
        v.chaser(0, 0, 1);
        v.chaser(11, 11, 1);
        v.fly(0, 0, 0, 13, 10, 0);
        v.wind(true, 1, 0, 23, 2, 2);
        check.due("where it began", v.first(0), 0);
        v.go(0, 0, 1, 3);
        check.due("6, 6 is nearer to the other", v.first(0), 1);
        v.go(0, 2, 50, 1);
        check.due("landed", v.first(0), 1);
    }

    /** "NONE: not so many. BAD: k below 0." */
    private static void recordOfNone() {
        GasVoyages v = new GasVoyages();
        int[] ks = {0, 1, 7, 8, Integer.MAX_VALUE};
        for (int k : ks) {
            check.due("no flights", v.record(k), -1);
        }
        check.due("below 0", v.record(-1), -2);
        check.due("far below 0", v.record(Integer.MIN_VALUE), -2);
    }

    private static void landBehind(GasVoyages v, int flight, int ticks) {
        if (ticks > 0) {
            v.go(flight, 0, 1, ticks);
        }
        v.go(flight, 2, 50, 1);
    }

    /** Eight that LANDED and are CLEAR: record 7 is the last. */
    private static void recordsOfEight() {
        GasVoyages v = new GasVoyages();
        v.wind(true, 1, 0, 23, 1, 0);
        int[] steps = {3, 0, 7, 1, 6, 2, 5, 4};
        for (int f = 0; f < 8; f++) {
            v.fly(0, f, 0, 13, 10, 0);
            landBehind(v, f, steps[f]);
        }
        int[] due = {2, 4, 6, 7, 0, 5, 3, 1};
        for (int k = 0; k < 8; k++) {
            check.due("record " + k, v.record(k), due[k]);
        }
        check.due("record 8", v.record(8), -1);
        check.due("far beyond", v.record(Integer.MAX_VALUE), -1);
        check.due("below 0", v.record(-1), -2);
    }

    /** "FLIGHTS that LANDED". */
    private static void recordOfLandedAlone() {
        GasVoyages v = new GasVoyages();
        v.fly(0, 0, 0, 13, 10, 0);
        v.go(0, 0, 1, 1);
        check.due("it goes", v.record(0), -1);
        v.go(0, 2, 50, 1);
        check.due("it landed, at no distance", v.record(0), 0);
        check.due("one alone", v.record(1), -1);
    }

    /** "and are CLEAR": neither a DOUBT nor a BREACH, as CELLS and WINDS are now. */
    private static void recordOfClearAlone() {
        GasVoyages v = new GasVoyages();
        v.fly(5, 5, 0, 13, 10, 0);
        landBehind(v, 0, 1);
        v.lose(0, 1, 1);
        v.wind(true, 2, 0, 0, 1, 0);
        v.wind(true, 1, 1, 1, -1, 0);
        check.due("clear", v.judge(0), 0);
        check.due("clear", v.record(0), 0);
        v.cell(5, 5, 2);
        check.due("a breach", v.judge(0), 2);
        check.due("a breach", v.record(0), -1);
        v.cell(5, 5, 0);
        v.lose(0, 2, 2);
        v.cell(6, 5, 2);
        check.due("a doubt", v.judge(0), 1);
        check.due("a doubt", v.record(0), -1);
        v.cell(6, 5, 0);
        check.due("clear again", v.record(0), 0);
    }

    /** "the greatest DISTANCE first, of like ones the fewer TICKS, then the least number". */
    private static void recordsByTicksThenNumber() {
        GasVoyages v = new GasVoyages();
        v.wind(true, 1, 0, 0, 1, 0);
        v.wind(true, 1, 20, 20, 1, 0);
        int[][] tickAndGone = {{0, 3}, {20, 2}, {20, 1}, {0, 2}, {20, 1}, {0, 1}, {1, 1}, {20, 5}};
        for (int f = 0; f < 8; f++) {
            v.fly(0, f, tickAndGone[f][0], 13, 10, 0);
            landBehind(v, f, tickAndGone[f][1]);
        }
        // FLIGHT 7 comes to hour 0 and on to 2, 7; FLIGHT 6 does not move; all others are at DISTANCE 100.
        int[] due = {7, 2, 4, 5, 1, 3, 0, 6};
        for (int k = 0; k < 8; k++) {
            check.due("record " + k, v.record(k), due[k]);
        }
    }

    /** The two DISTANCES that are nearest to each other, 2640 and 2641; the lesser one in fewer TICKS. */
    private static void recordsByOneOfDistance() {
        GasVoyages v = new GasVoyages();
        v.land(24, 24);
        v.fly(0, 0, 0, 13, 10, 0);
        v.fly(0, 0, 12, 13, 10, 0);
        landBehind(v, 0, Drift.lead(v, 0, 0, 0, 16, 21));
        landBehind(v, 1, Drift.lead(v, 12, 0, 0, 13, 23));
        check.due("the lesser distance", v.distance(0), 2640);
        check.due("the greater distance", v.distance(1), 2641);
        check.due("ticks of the lesser", v.about(0, 5), 12);
        check.due("ticks of the greater", v.about(1, 5) - 12, 13);
        check.due("the greater first", v.record(0), 1);
        check.due("then the lesser", v.record(1), 0);
    }

    /** "How many": none of each. */
    private static void countsAtTheirLeast() {
        GasVoyages v = new GasVoyages();
        v.land(4, 4);
        int[] due = {4, 4, 0, 0, 0, 0, 0};
        for (int what = 0; what < due.length; what++) {
            check.due("count " + what, v.count(what), due[what]);
        }
        check.due("below", v.count(-1), -2);
        check.due("beyond", v.count(7), -2);
    }

    /** 8 FLIGHTS of 60 entries each, all LOST that may be; 4 CHASERS; every CELL of 12 by 12 CLOSED. */
    private static void countsAtTheirGreatest() {
        GasVoyages v = fullOfLogs();
        for (int f = 0; f < 8; f++) {
            check.due("lost", v.lose(f, 1, 59), 59);
        }
        for (int c = 0; c < 4; c++) {
            v.chaser(0, 0, 1);
        }
        for (int i = 0; i < 144; i++) {
            v.cell(i % 12, i / 12, 2);
        }
        int[] due = {12, 12, 8, 8, 4, 144, 8 * 59};
        for (int what = 0; what < due.length; what++) {
            check.due("count " + what, v.count(what), due[what]);
        }
        v.land(24, 24);
        check.due("the greatest w", v.count(0), 24);
        check.due("the greatest h", v.count(1), 24);
    }

    private static GasVoyages fullOfLogs() {
        GasVoyages v = new GasVoyages();
        for (int f = 0; f < 8; f++) {
            v.fly(11 - f, f, 3 * f, 13, 10, 0);
            for (int i = 0; i < 4; i++) {
                v.go(f, 0, 1, 12);
            }
            v.go(f, 0, 1, 11);
        }
        return v;
    }

    /** "h = 163; then h = 31 h + v for each v": without FLIGHTS and CHASERS the seven counts alone. */
    private static void digestOfNothing() {
        long h = 163;
        int[] counts = {12, 12, 0, 0, 0, 0, 0};
        for (int c : counts) {
            h = 31 * h + c;
        }
        check.due("new", new GasVoyages().digest(), h);
        GasVoyages v = new GasVoyages();
        v.fly(0, 0, 0, 1, 0, 0);
        v.chaser(1, 1, 1);
        v.land(12, 12);
        check.due("new land", v.digest(), h);
    }

    /** A long begins again at its other end: held against whole numbers without end, left over by 2 to the 64. */
    private static void digestWrapsAround() {
        GasVoyages v = fullOfLogs();
        int[] counts = {12, 12, 8, 8, 2, 0, 60};
        v.lose(0, 1, 59);
        v.lose(7, 59, 60);
        v.chaser(3, 4, 1);
        v.chaser(11, 0, 5);
        BigInteger h = BigInteger.valueOf(163);
        for (int c : counts) {
            h = and(h, c);
        }
        for (int f = 0; f < 8; f++) {
            int[] about = {11 - f, f, 1, 10, 0, 3 * f + 59, 0, 60, 0, 0};
            for (int a : about) {
                h = and(h, a);
            }
            for (int i = 0; i < 60; i++) {
                boolean lost = f == 0 && i > 0 || f == 7 && i == 59;
                h = and(and(and(h, lost ? -1 : 11 - f), lost ? -1 : f), lost ? -1 : 1);
            }
        }
        h = and(and(and(and(h, 3), 4), 11), 0);
        check.due("all that there may be", v.digest(), h.longValue());
    }

    private static BigInteger and(BigInteger h, int v) {
        return h.multiply(BigInteger.valueOf(31)).add(BigInteger.valueOf(v));
    }
}
