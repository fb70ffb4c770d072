/** Promises 1 to 6: a new object, land, cell, level, warmth, wind. */
public final class LandAirTest {
    private static final Check check = new Check();

    public static void main(String[] args) {
        newObject();
        landSizes();
        landKeepsTheAir();
        landEndsFlightsAndChasers();
        cells();
        waterUnderAChaser();
        levels();
        levelActsInATick();
        warmths();
        warmthLifts();
        windRefusals();
        windByHoursAndKind();
        check.end("LandAirTest");
    }

    private static void newObject() {
        GasVoyages v = new GasVoyages();
        int[] counts = {12, 12, 0, 0, 0, 0, 0};
        for (int i = 0; i < counts.length; i++) {
            check.due("new: count " + i, v.count(i), counts[i]);
        }
        check.due("new: order(0)", v.order(0), -1);
        check.due("new: record(0)", v.record(0), -1);
        for (int x = 0; x < 12; x++) {
            check.due("new: cell", v.cell(x, 11 - x, 0), 0);
        }
        for (int hour = 0; hour < 24; hour++) {
            check.due("new: warmth", v.warmth(hour, 0), 0);
        }
        // LIFT of 10 GAS at LEVEL 1 is 130 by the first DENSITY, WEIGHT 130.
        check.due("new: fly", v.fly(6, 6, 0, 13, 10, 0), 0);
        check.due("new: lift less weight", v.about(0, 8), 0);
        check.due("new: go", v.go(0, 0, 1, 12), 12);
        check.due("new: no wind, x", v.about(0, 0), 6);
        check.due("new: no wind, y", v.about(0, 1), 6);
        firstDensities();
    }

    private static void firstDensities() {
        GasVoyages v = new GasVoyages();
        v.fly(0, 0, 0, 1, 500, 0);
        for (int level = 1; level <= 7; level++) {
            check.due("density of level " + level, v.about(0, 8), 500 * (14 - level) - 10);
            v.go(0, 0, 1, 1);
        }
        check.due("no gas goes by fullness at first", v.about(0, 9), 0);
        v.fly(0, 0, 0, 200, 10, 0);
        v.go(1, 0, 1, 1);
        check.due("density of the ground", v.about(1, 8), 10 * 14 - 2000);
    }

    private static void landSizes() {
        GasVoyages v = new GasVoyages();
        check.due("land(4, 24)", v.land(4, 24), 1);
        check.due("w", v.count(0), 4);
        check.due("h", v.count(1), 24);
        check.due("last cell", v.cell(3, 23, 2), 0);
        check.due("beyond w", v.cell(4, 0, 0), -2);
        check.due("beyond h", v.cell(0, 24, 0), -2);
        check.due("land(24, 4)", v.land(24, 4), 1);
        check.due("last cell", v.cell(23, 3, 0), 0);
        check.due("beyond h", v.cell(0, 4, 0), -2);
        int[][] bad = {{3, 4}, {4, 3}, {25, 4}, {4, 25}, {-1, 12}, {0, 0},
            {Integer.MAX_VALUE, 4}, {4, Integer.MIN_VALUE}};
        for (int[] b : bad) {
            v.cell(1, 1, 2);
            check.due("land " + b[0] + ", " + b[1], v.land(b[0], b[1]), -2);
            check.due("refused land keeps w", v.count(0), 24);
            check.due("refused land keeps cells", v.count(5), 1);
        }
        check.due("land(24, 24)", v.land(24, 24), 1);
        check.due("all plain", v.count(5), 0);
        check.due("was plain", v.cell(1, 1, 1), 0);
        check.due("the same again", v.land(24, 24), 1);
        check.due("water is gone", v.cell(1, 1, 0), 0);
    }

    private static void landKeepsTheAir() {
        GasVoyages v = new GasVoyages();
        v.level(1, 20, 30);
        v.warmth(5, 7);
        v.wind(true, 2, 5, 5, 1, 2);
        v.wind(false, 2, 5, 5, 2, 1);
        v.land(10, 10);
        check.due("fly", v.fly(3, 3, 5, 1, 40, 0), 0);
        check.due("density and warmth stay", v.about(0, 8), 40 * 27 - 10);
        check.due("forecast stays", v.plan(0, 1, 1, 5, 4), 0);
        v.go(0, 0, 1, 1);
        check.due("real wind stays, x", v.about(0, 0), 4);
        check.due("real wind stays, y", v.about(0, 1), 5);
        check.due("warmth stays", v.warmth(5, 0), 7);
    }

    private static void landEndsFlightsAndChasers() {
        GasVoyages v = new GasVoyages();
        for (int i = 0; i < 8; i++) {
            v.fly(1, 1, 0, 1, 1, 1);
        }
        v.chaser(2, 2, 1);
        v.go(7, 0, 1, 1);
        v.lose(7, 1, 1);
        check.due("lost", v.count(6), 1);
        v.land(12, 12);
        check.due("flights", v.count(2), 0);
        check.due("that go", v.count(3), 0);
        check.due("chasers", v.count(4), 0);
        check.due("lost entries", v.count(6), 0);
        check.due("no flight 0", v.about(0, 0), -100000);
        check.due("no chaser 0", v.chase(0, 2, 2), -2);
        check.due("water where a chaser stood", v.cell(2, 2, 1), 0);
        check.due("numbers begin again", v.fly(1, 2, 3, 4, 5, 6), 0);
        check.due("log begins again", v.about(0, 7), 1);
    }

    private static void cells() {
        GasVoyages v = new GasVoyages();
        check.due("plain to water", v.cell(3, 4, 1), 0);
        check.due("water to closed", v.cell(3, 4, 2), 1);
        check.due("closed stays closed", v.cell(3, 4, 2), 2);
        check.due("one is closed", v.count(5), 1);
        check.due("x and y are not changed about", v.cell(4, 3, 2), 0);
        check.due("two are closed", v.count(5), 2);
        check.due("closed to plain", v.cell(3, 4, 0), 2);
        check.due("one is closed again", v.count(5), 1);
        int[][] bad = {{-1, 0, 0}, {0, -1, 0}, {12, 0, 0}, {0, 12, 0}, {0, 0, -1}, {0, 0, 3},
            {Integer.MIN_VALUE, 0, 0}, {0, Integer.MAX_VALUE, 0}};
        for (int[] b : bad) {
            check.due("bad cell", v.cell(b[0], b[1], b[2]), -2);
        }
    }

    private static void waterUnderAChaser() {
        GasVoyages v = new GasVoyages();
        v.chaser(3, 3, 1);
        check.due("water under a chaser", v.cell(3, 3, 1), -3);
        check.due("closed under a chaser", v.cell(3, 3, 2), 0);
        check.due("water under it still not", v.cell(3, 3, 1), -3);
        check.due("it is closed still", v.cell(3, 3, 0), 2);
        check.due("water beside it", v.cell(3, 4, 1), 0);
        check.due("bad comes before no", v.cell(3, 3, 4), -2);
    }

    private static void levels() {
        GasVoyages v = new GasVoyages();
        check.due("least", v.level(0, 0, 0), 1);
        check.due("most", v.level(7, 50, 500), 1);
        int[][] bad = {{-1, 0, 0}, {8, 0, 0}, {0, -1, 0}, {0, 51, 0}, {0, 0, -1}, {0, 0, 501}};
        for (int[] b : bad) {
            check.due("bad level", v.level(b[0], b[1], b[2]), -2);
        }
        v.fly(0, 0, 0, 1, 10, 0);
        check.due("refused levels changed nothing", v.about(0, 8), 10 * 13 - 10);
        v.level(1, 3, 4);
        check.due("density now", v.about(0, 8), 10 * 3 - 10);
        check.due("fullness acts in ticks alone", v.about(0, 3), 10);
    }

    private static void levelActsInATick() {
        GasVoyages v = new GasVoyages();
        v.level(2, 0, 6);
        v.level(0, 14, 1);
        v.fly(0, 0, 0, 1, 10, 0);
        v.go(0, 0, 1, 1);
        check.due("level", v.about(0, 2), 2);
        check.due("gas", v.about(0, 3), 6);
        check.due("went", v.about(0, 9), 4);
        check.due("falls for want of density, and lands", v.go(0, 0, 1, 12), 12);
        check.due("to and fro between 1 and 2", v.about(0, 2), 2);
        v.level(1, 0, 500);
        check.due("lands", v.go(0, 0, 1, 12), 2);
        check.due("fullness of the ground, too", v.about(0, 3), 1);
        check.due("in all", v.about(0, 9), 9);
    }

    private static void warmths() {
        GasVoyages v = new GasVoyages();
        check.due("first", v.warmth(23, 20), 0);
        check.due("was 20", v.warmth(23, -20), 20);
        check.due("was -20", v.warmth(23, 0), -20);
        check.due("of another hour", v.warmth(22, 3), 0);
        int[][] bad = {{-1, 0}, {24, 0}, {22, 21}, {22, -21}, {Integer.MAX_VALUE, 0}};
        for (int[] b : bad) {
            check.due("bad warmth", v.warmth(b[0], b[1]), -1000);
        }
        check.due("refused changed nothing", v.warmth(22, 0), 3);
    }

    private static void warmthLifts() {
        GasVoyages v = new GasVoyages();
        v.warmth(0, -14);
        v.fly(0, 0, 23, 13, 10, 0);
        check.due("hour 23 balances", v.go(0, 0, 1, 1), 1);
        check.due("level stays", v.about(0, 2), 1);
        check.due("tick 24 is hour 0", v.about(0, 8), 10 * -1 - 130);
        check.due("falls by cold", v.go(0, 0, 1, 5), 1);
        check.due("landed", v.about(0, 6), 1);
    }

    private static void windRefusals() {
        GasVoyages v = new GasVoyages();
        int[][] bad = {{0, 0, 0, 0, 0}, {8, 0, 0, 0, 0}, {1, -1, 0, 0, 0}, {1, 24, 24, 0, 0}, {1, 0, 24, 0, 0},
            {1, 2, 1, 0, 0}, {1, 0, 0, 3, 0}, {1, 0, 0, -3, 0}, {1, 0, 0, 0, 3}, {1, 0, 0, 0, -3}, {-1, 0, 0, 0, 0}};
        for (int[] b : bad) {
            check.due("bad real wind", v.wind(true, b[0], b[1], b[2], b[3], b[4]), -2);
            check.due("bad forecast", v.wind(false, b[0], b[1], b[2], b[3], b[4]), -2);
        }
        check.due("edges", v.wind(true, 7, 0, 23, -2, 2), 1);
        check.due("one hour", v.wind(true, 1, 23, 23, 2, -2), 1);
    }

    private static void windByHoursAndKind() {
        GasVoyages v = new GasVoyages();
        v.wind(true, 1, 3, 5, 1, 0);
        v.wind(false, 1, 3, 5, 0, 1);
        v.fly(4, 4, 2, 13, 10, 0);
        int[] xs = {4, 5, 6, 7, 7};
        for (int i = 0; i < xs.length; i++) {
            v.go(0, 0, 1, 1);
            check.due("x behind hour " + (2 + i), v.about(0, 0), xs[i]);
            check.due("y behind hour " + (2 + i), v.about(0, 1), 4);
        }
        v.fly(4, 4, 2, 13, 10, 0);
        check.due("forecast leads by y", v.plan(1, 5, 1, 4, 7), 0);
        v.wind(true, 1, 0, 23, -1, -1);
        v.go(1, 0, 1, 1);
        check.due("a later wind holds, x", v.about(1, 0), 3);
        check.due("a later wind holds, y", v.about(1, 1), 3);
    }
}
