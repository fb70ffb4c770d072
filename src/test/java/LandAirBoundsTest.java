/** Boundary cases of promises 1 to 6, beside those of RangesTest: what the first and last numbers do. */
public final class LandAirBoundsTest {
    private static final Check check = new Check();

    public static void main(String[] args) {
        newObjectIsEmpty();
        newObjectIsPlainAndStill();
        landOfEachSize();
        allPlainBehindLand();
        noFlightsNoChasersBehindLand();
        landKeepsLevelsHoursWinds();
        whatTheCellWas();
        lastCells();
        waterWhereNoChaserStandsAnyMore();
        levelsEnds();
        oneLevelAlone();
        whatTheWarmthWas();
        warmthsEnds();
        hoursFromTo();
        oneWindAlone();
        windsEnds();
        check.end("LandAirBoundsTest");
    }

    /** "As told; no FLIGHTS, no CHASERS." */
    private static void newObjectIsEmpty() {
        GasVoyages v = new GasVoyages();
        int[] counts = {12, 12, 0, 0, 0, 0, 0};
        for (int what = 0; what < counts.length; what++) {
            check.due("count " + what, v.count(what), counts[what]);
        }
        check.due("go", v.go(0, 0, 1, 1), -2);
        check.due("about", v.about(0, 0), -100000);
        check.due("distance", v.distance(0), -2);
        check.due("plan", v.plan(0, 1, 1, 0, 0), -2);
        check.due("away", v.away(0, 1, 1), -2);
        check.due("order", v.order(0), -1);
        check.due("entry", v.entry(0, 0, 0), -2);
        check.due("lose", v.lose(0, 1, 1), -2);
        check.due("judge", v.judge(0), -2);
        check.due("ways", v.ways(0, false), -2);
        check.due("chase", v.chase(0, 0, 0), -2);
        check.due("first", v.first(0), -2);
        check.due("record", v.record(0), -1);
    }

    /** "12 by 12 at first", PLAIN, "WINDS 0 at first", of all LEVELS and hours. */
    private static void newObjectIsPlainAndStill() {
        GasVoyages v = new GasVoyages();
        for (int x = 0; x < 12; x++) {
            for (int y = 0; y < 12; y++) {
                check.due("cell " + x + ", " + y, v.cell(x, y, 2), 0);
            }
        }
        check.due("all closed now", v.count(5), 144);
        check.due("none beyond", v.cell(12, 11, 0), -2);
        check.due("none beyond", v.cell(11, 12, 0), -2);
        for (int l = 1; l <= 7; l++) {
            GasVoyages still = heldAt(l);
            still.go(0, 0, 1, 12);
            still.go(0, 0, 1, 12);
            check.due("it stayed at level " + l, still.about(0, 2), l);
            check.due("no real wind at level " + l, still.distance(0), 0);
            check.due("nor a forecast", still.away(0, 6, 1), 0);
        }
    }

    /** A FLIGHT in balance at LEVEL l, in the middle, all LEVELS about it without WIND. */
    private static GasVoyages heldAt(int l) {
        GasVoyages v = new GasVoyages();
        for (int below = 1; below < l; below++) {
            v.level(below, 11, 500);
        }
        v.level(l, 10, 500);
        v.fly(6, 6, 0, 10, 10, 0);
        if (l > 1) {
            v.go(0, 0, 1, l - 1);
        }
        return v;
    }

    /** "THE LAND is w by h (4 .. 24 each)": each of the sizes, and its last CELL. */
    private static void landOfEachSize() {
        GasVoyages v = new GasVoyages();
        for (int side = 4; side <= 24; side++) {
            int other = 28 - side;
            check.due("land " + side + ", " + other, v.land(side, other), 1);
            check.due("w", v.count(0), side);
            check.due("h", v.count(1), other);
            check.due("the last cell", v.cell(side - 1, other - 1, 2), 0);
            check.due("beyond w", v.cell(side, other - 1, 2), -2);
            check.due("beyond h", v.cell(side - 1, other, 2), -2);
            check.due("a flight beyond w", v.fly(side, other - 1, 0, 1, 0, 0), -2);
            check.due("a chaser beyond h", v.chaser(side - 1, other, 1), -2);
            check.due("one is closed", v.count(5), 1);
        }
    }

    /** "all PLAIN": CELLS of an earlier LAND, also those beyond one in between. */
    private static void allPlainBehindLand() {
        GasVoyages v = new GasVoyages();
        v.land(24, 24);
        v.cell(0, 0, 2);
        v.cell(3, 3, 1);
        v.cell(23, 23, 2);
        v.cell(4, 0, 1);
        v.land(4, 4);
        check.due("none closed", v.count(5), 0);
        check.due("was closed", v.cell(0, 0, 1), 0);
        check.due("was water", v.cell(3, 3, 1), 0);
        v.land(24, 24);
        int[][] cells = {{0, 0}, {3, 3}, {23, 23}, {4, 0}};
        for (int[] c : cells) {
            check.due("plain again", v.cell(c[0], c[1], 2), 0);
        }
        v.land(24, 24);
        check.due("the same size, too", v.count(5), 0);
        check.due("the same size, too", v.cell(23, 23, 0), 0);
    }

    /** "no FLIGHTS, no CHASERS": where both were full, there are as many again, and nothing of the earlier ones. */
    private static void noFlightsNoChasersBehindLand() {
        GasVoyages v = new GasVoyages();
        v.level(0, 14, 3);
        long begun = fillWithFlightsAndChasers(v);
        for (int round = 0; round < 3; round++) {
            for (int f = 0; f < 8; f++) {
                v.go(f, 0, 1, 5);
                v.lose(f, 2, 4);
                v.go(f, 2, 1, 1);
                check.due("landed", v.about(f, 6), 1);
                check.due("gas that went", v.about(f, 9), 6);
            }
            v.land(12, 12);
            int[] none = {2, 3, 4, 6};
            for (int what : none) {
                check.due("count " + what, v.count(what), 0);
            }
            check.due("no flight", v.about(0, 0), -100000);
            check.due("no chaser", v.chase(0, 0, 0), -2);
            check.due("as on a new object", fillWithFlightsAndChasers(v), begun);
        }
    }

    private static long fillWithFlightsAndChasers(GasVoyages v) {
        for (int f = 0; f < 8; f++) {
            check.due("flight", v.fly(f, 0, f, 13, 10, 0), f);
            v.go(f, 0, 1, 3);
            check.due("nothing is lost", v.judge(f) + v.ways(f, false), 1);
        }
        check.due("full", v.fly(0, 0, 0, 1, 0, 0), -4);
        for (int c = 0; c < 4; c++) {
            check.due("chaser", v.chaser(c, 1, 1), c);
        }
        check.due("full", v.chaser(0, 0, 1), -4);
        return v.digest();
    }

    /** "(LEVELS, hours, WINDS stay)": the first and last of each. */
    private static void landKeepsLevelsHoursWinds() {
        GasVoyages v = new GasVoyages();
        v.level(0, 50, 3);
        v.level(1, 0, 2);
        v.warmth(0, -20);
        v.warmth(23, 20);
        v.wind(true, 1, 23, 23, -1, 2);
        v.wind(false, 1, 23, 23, 2, -1);
        v.land(24, 24);
        v.fly(10, 10, 23, 1, 500, 0);
        check.due("density of 1 and warmth of 23", v.about(0, 8), 500 * 20 - 10);
        v.level(1, 0, 500);
        v.level(2, 0, 500);
        v.warmth(0, 0);
        check.due("warmth of 23 stays", v.warmth(23, 0), 20);
        check.due("lands", v.go(0, 0, 1, 1), 1);
        check.due("fullness of the ground stays", v.about(0, 3), 3);
        check.due("density of the ground stays", v.about(0, 8), 3 * 50 - 10);
        v.level(1, 13, 500);
        v.fly(10, 10, 23, 13, 10, 0);
        check.due("forecast of 23 stays", v.plan(1, 1, 1, 12, 9), 0);
        v.go(1, 0, 1, 1);
        check.due("real wind of 23 stays, x", v.about(1, 0), 9);
        check.due("real wind of 23 stays, y", v.about(1, 1), 12);
    }

    /** "A CELL is PLAIN (0), WATER (1), CLOSED (2): what it was." From each to each. */
    private static void whatTheCellWas() {
        GasVoyages v = new GasVoyages();
        for (int was = 0; was <= 2; was++) {
            for (int kind = 0; kind <= 2; kind++) {
                v.cell(5, 6, was);
                check.due("from " + was + " to " + kind, v.cell(5, 6, kind), was);
                check.due("closed", v.count(5), kind == 2 ? 1 : 0);
            }
        }
    }

    /** The four corners are four CELLS, and none of them is another one's neighbour. */
    private static void lastCells() {
        GasVoyages v = new GasVoyages();
        v.land(24, 5);
        int[][] corners = {{0, 0}, {23, 0}, {0, 4}, {23, 4}};
        for (int[] c : corners) {
            check.due("corner", v.cell(c[0], c[1], 2), 0);
        }
        check.due("four", v.count(5), 4);
        check.due("beside the end of a row", v.cell(0, 1, 0), 0);
        check.due("at the end of the row before", v.cell(23, 3, 0), 0);
        check.due("x and y are not one for the other", v.cell(4, 0, 0), 0);
    }

    private static void waterWhereNoChaserStandsAnyMore() {
        GasVoyages v = new GasVoyages();
        v.chaser(11, 11, 1);
        check.due("where it stands", v.cell(11, 11, 1), -3);
        check.due("beside it", v.cell(10, 11, 1), 0);
        check.due("above it", v.cell(11, 10, 1), 0);
        v.land(12, 12);
        check.due("where it stood", v.cell(11, 11, 1), 0);
        v.fly(3, 3, 0, 1, 0, 0);
        check.due("a flight is no chaser", v.cell(3, 3, 1), 0);
    }

    /** DENSITY 0 and 50, FULLNESS 0 and 500, of LEVEL 0 and 7. */
    private static void levelsEnds() {
        for (int density : new int[] {0, 50}) {
            for (int fullness : new int[] {0, 500}) {
                GasVoyages v = new GasVoyages();
                check.due("level 0", v.level(0, density, fullness), 1);
                v.fly(0, 0, 0, 200, 10, 0);
                v.go(0, 0, 1, 1);
                check.due("gas on the ground", v.about(0, 3), Math.min(10, fullness));
                check.due("lift on the ground", v.about(0, 8), Math.min(10, fullness) * density - 2000);
                v.fly(0, 0, 0, 1, 500, 0);
                v.go(1, 0, 1, 5);
                check.due("level 7", v.level(7, density, fullness), 1);
                v.go(1, 0, 1, 1);
                check.due("gas at 7", v.about(1, 3), fullness);
                check.due("lift at 7", v.about(1, 8), fullness * density - 10);
            }
        }
    }

    /** "DENSITY and FULLNESS of a LEVEL": not of those beside it. */
    private static void oneLevelAlone() {
        for (int changed = 1; changed <= 7; changed++) {
            GasVoyages v = new GasVoyages();
            v.level(changed, 50, 499);
            v.fly(0, 0, 0, 1, 500, 0);
            for (int l = 1; l <= 7; l++) {
                // It is at LEVEL 1 before its first TICK alone, so that its GAS is not held against the FULLNESS there.
                int gas = changed > 1 && l >= changed ? 499 : 500;
                int density = l == changed ? 50 : 14 - l;
                check.due("at " + l + ", changed at " + changed, v.about(0, 8), gas * density - 10);
                v.go(0, 0, 1, 1);
            }
        }
    }

    /** "what it was. BAD: -1000": -2 and -1 are WARMTHS as others are. */
    private static void whatTheWarmthWas() {
        GasVoyages v = new GasVoyages();
        int was = 0;
        for (int warm = -20; warm <= 20; warm++) {
            check.due("warmth " + warm, v.warmth(23, warm), was);
            was = warm;
        }
        check.due("bad", v.warmth(23, 21), -1000);
        check.due("bad", v.warmth(23, -21), -1000);
        check.due("bad", v.warmth(24, 20), -1000);
        check.due("bad", v.warmth(-1, 20), -1000);
        check.due("the last one", v.warmth(23, 0), 20);
        check.due("of another hour", v.warmth(22, 0), 0);
        check.due("of another hour", v.warmth(0, 0), 0);
    }

    private static void warmthsEnds() {
        for (int hour : new int[] {0, 23}) {
            for (int warm : new int[] {-20, 20}) {
                GasVoyages v = new GasVoyages();
                v.warmth(hour, warm);
                for (int tick = 0; tick < 8; tick++) {
                    v.fly(0, 0, 3 * tick + (hour == 0 ? 0 : 2), 1, 10, 0);
                    boolean then = tick == (hour == 0 ? 0 : 7);
                    check.due("lift at " + hour, v.about(tick, 8), 10 * (13 + (then ? warm : 0)) - 10);
                }
            }
        }
    }

    /** "hours from .. to": both ends are among them, those beside them are not. */
    private static void hoursFromTo() {
        int[][] spans = {{0, 0}, {23, 23}, {0, 23}, {5, 5}, {5, 6}, {0, 11}, {12, 23}};
        for (int[] s : spans) {
            GasVoyages v = new GasVoyages();
            check.due("real", v.wind(true, 1, s[0], s[1], 1, 0), 1);
            check.due("forecast", v.wind(false, 1, s[0], s[1], 0, 1), 1);
            v.land(24, 24);
            for (int hour = 0; hour < 24; hour++) {
                v.fly(5, 5, hour, 13, 10, 0);
                boolean blows = hour >= s[0] && hour <= s[1];
                check.due("forecast at " + hour, v.away(hour % 8, 1, 1), blows ? 1 : 0);
                v.go(hour % 8, 0, 1, 1);
                check.due("real at " + hour, v.about(hour % 8, 0), blows ? 6 : 5);
                check.due("not the forecast at " + hour, v.about(hour % 8, 1), 5);
                if (hour % 8 == 7) {
                    v.land(24, 24);
                }
            }
        }
    }

    /** "of a LEVEL 1 .. 7": not of those beside it. */
    private static void oneWindAlone() {
        for (int blown = 1; blown <= 7; blown++) {
            for (int l = 1; l <= 7; l++) {
                GasVoyages v = heldAt(l);
                v.wind(true, blown, 0, 23, 1, 0);
                v.go(0, 0, 1, 1);
                check.due("at " + l + ", wind at " + blown, v.distance(0), l == blown ? 100 : 0);
            }
        }
    }

    /** "two steps x, y (-2 .. 2)": each of the 25. */
    private static void windsEnds() {
        for (int dx = -2; dx <= 2; dx++) {
            for (int dy = -2; dy <= 2; dy++) {
                GasVoyages v = new GasVoyages();
                check.due("real", v.wind(true, 1, 0, 23, dx, dy), 1);
                check.due("forecast", v.wind(false, 1, 0, 23, dy, dx), 1);
                v.fly(5, 5, 0, 13, 10, 0);
                check.due("forecast leads there", v.plan(0, 1, 1, 5 + dy, 5 + dx), 0);
                v.go(0, 0, 1, 1);
                check.due("x", v.about(0, 0), 5 + dx);
                check.due("y", v.about(0, 1), 5 + dy);
            }
        }
    }
}
