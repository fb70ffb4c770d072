/** Boundary cases of IN A TICK: DOSES, LIFT against WEIGHT, the LEVELS' ends, FULLNESS, the edge of THE LAND. */
public final class TicksBoundsTest {
    private static final Check check = new Check();

    public static void main(String[] args) {
        ballastOneDoseLess();
        gasOneDoseLess();
        aDoseInEachTick();
        liftAgainstWeight();
        liftAgainstWeightAtTheirGreatest();
        notAboveSeven();
        zeroIsALanding();
        liftBelowNothing();
        gasAboveFullness();
        fullnessOfTheLevelThatIsThen();
        fullnessOfTheGround();
        beyondTheLand();
        beyondTheLeastAndGreatestLand();
        landedOnItsCell();
        check.end("TicksBoundsTest");
    }

    /** "1 BALLAST is one DOSE less (what there is, if it is less)". */
    private static void ballastOneDoseLess() {
        int[] doses = {1, 2, 49, 50};
        for (int dose : doses) {
            for (int ballast : new int[] {dose + 1, dose, dose - 1, 0, 200}) {
                GasVoyages v = new GasVoyages();
                v.fly(0, 0, 0, 1, 500, ballast);
                v.go(0, 1, dose, 1);
                check.due("ballast " + ballast + " less " + dose, v.about(0, 4), Math.max(0, ballast - dose));
                check.due("its gas", v.about(0, 3), 500);
            }
        }
    }

    /** "2 GAS likewise". */
    private static void gasOneDoseLess() {
        int[] doses = {1, 2, 49, 50};
        for (int dose : doses) {
            for (int gas : new int[] {dose + 1, dose, dose - 1, 0, 500}) {
                GasVoyages v = new GasVoyages();
                v.fly(0, 0, 0, 1, gas, 7);
                v.go(0, 2, dose, 1);
                check.due("gas " + gas + " less " + dose, v.about(0, 3), Math.max(0, gas - dose));
                check.due("its ballast", v.about(0, 4), 7);
                check.due("what is spent does not go by fullness", v.about(0, 9), 0);
            }
        }
    }

    /** "n TICKS, each with an ORDER and a DOSE": the last full DOSE, and those behind it. */
    private static void aDoseInEachTick() {
        for (int n = 1; n <= 12; n++) {
            GasVoyages v = new GasVoyages();
            v.fly(0, 0, 0, 1, 500, 200);
            v.fly(0, 0, 0, 1, 500, 200);
            check.due("ticks with ballast", v.go(0, 1, 50, n), n);
            check.due("ballast behind " + n, v.about(0, 4), Math.max(0, 200 - 50 * n));
            v.go(1, 2, 49, n);
            check.due("gas behind " + n, v.about(1, 3), Math.max(0, 500 - 49 * n));
        }
    }

    /** "If LIFT is above WEIGHT the LEVEL is one more, if it is below one less": by 1, and not at all. */
    private static void liftAgainstWeight() {
        int[][] gasAndLevel = {{11, 2}, {10, 1}, {9, 0}};
        for (int[] g : gasAndLevel) {
            GasVoyages v = new GasVoyages();
            v.level(1, 1, 500);
            v.fly(0, 0, 0, 1, g[0], 0);
            check.due("lift less weight by gas " + g[0], v.about(0, 8), g[0] - 10);
            v.go(0, 0, 1, 1);
            check.due("level by gas " + g[0], v.about(0, 2), g[1]);
        }
    }

    private static void liftAgainstWeightAtTheirGreatest() {
        int[][] numbers = {{200, 200, 401, 2}, {200, 200, 400, 1}, {200, 200, 399, 0},
            {199, 200, 400, 2}, {200, 199, 400, 2}};
        for (int[] n : numbers) {
            GasVoyages v = new GasVoyages();
            v.level(1, 10, 500);
            v.fly(0, 0, 0, n[0], n[2], n[1]);
            v.go(0, 0, 1, 1);
            check.due("level by gas " + n[2] + " against " + (n[0] + n[1]), v.about(0, 2), n[3]);
        }
        GasVoyages v = new GasVoyages();
        v.level(1, 50, 500);
        v.warmth(0, 20);
        v.fly(0, 0, 0, 1, 500, 0);
        check.due("the greatest lift less the least weight", v.about(0, 8), 500 * 70 - 10);
    }

    /** "the LEVEL is one more (not above 7)". */
    private static void notAboveSeven() {
        GasVoyages v = new GasVoyages();
        v.fly(0, 0, 0, 7, 10, 0);
        v.level(6, 9, 500);
        int[] levels = {2, 3, 4, 5, 6, 7, 7};
        for (int i = 0; i < levels.length; i++) {
            v.go(0, 0, 1, 1);
            check.due("level behind tick " + i, v.about(0, 2), levels[i]);
            check.due("its entry", v.entry(0, i + 1, 2), levels[i]);
        }
        check.due("at 7 in balance", v.about(0, 8), 0);
        v.level(7, 50, 500);
        check.due("goes on", v.go(0, 0, 1, 12), 12);
        check.due("at 7, lift far above", v.about(0, 2), 7);
        v.level(7, 6, 500);
        v.go(0, 0, 1, 1);
        check.due("from 7 one less", v.about(0, 2), 6);
    }

    /** "If the LEVEL is 0 it LANDED": LEVEL 1 is the last that is none. */
    private static void zeroIsALanding() {
        GasVoyages v = new GasVoyages();
        v.fly(0, 0, 0, 1, 10, 0);
        v.go(0, 0, 1, 1);
        check.due("at 2", v.about(0, 2), 2);
        v.level(2, 0, 500);
        v.level(1, 0, 500);
        v.go(0, 0, 1, 1);
        check.due("at 1", v.about(0, 2), 1);
        check.due("at 1 it has not landed", v.about(0, 6), 0);
        check.due("one goes", v.count(3), 1);
        check.due("the last tick", v.go(0, 0, 1, 12), 1);
        check.due("at 0", v.about(0, 2), 0);
        check.due("at 0 it landed", v.about(0, 6), 1);
        check.due("none goes", v.count(3), 0);
    }

    /** LIFT may be 0, and below it where the WARMTH is further below 0 than the DENSITY above. */
    private static void liftBelowNothing() {
        GasVoyages v = new GasVoyages();
        v.level(1, 0, 500);
        v.fly(0, 0, 0, 200, 500, 200);
        check.due("no lift", v.about(0, 8), -4000);
        v.warmth(0, -20);
        check.due("the least that there is", v.about(0, 8), -14000);
        check.due("falls", v.go(0, 0, 1, 12), 1);
        v.fly(0, 0, 1, 1, 0, 0);
        check.due("without gas", v.about(1, 8), -10);
        check.due("falls, too", v.go(1, 0, 1, 12), 1);
    }

    /** "GAS above the FULLNESS of the LEVEL that is then goes". */
    private static void gasAboveFullness() {
        for (int gas : new int[] {1, 100, 500}) {
            for (int fullness : new int[] {gas + 1, gas, gas - 1, 0, 500}) {
                GasVoyages v = new GasVoyages();
                int told = Math.min(500, fullness);
                v.level(2, 12, told);
                v.level(1, 50, 500);
                v.fly(0, 0, 0, 1, gas, 0);
                v.go(0, 0, 1, 1);
                check.due("gas " + gas + " at fullness " + told, v.about(0, 3), Math.min(gas, told));
                check.due("went", v.about(0, 9), Math.max(0, gas - told));
            }
        }
    }

    private static void fullnessOfTheLevelThatIsThen() {
        GasVoyages v = new GasVoyages();
        v.level(1, 13, 0);
        v.level(3, 11, 0);
        v.fly(0, 0, 0, 1, 500, 0);
        check.due("none goes before a tick", v.about(0, 3), 500);
        v.go(0, 0, 1, 1);
        check.due("neither that of the level left nor of the next", v.about(0, 3), 500);
        check.due("none went", v.about(0, 9), 0);
        v.go(0, 0, 1, 1);
        check.due("that of 3", v.about(0, 3), 0);
        check.due("all went", v.about(0, 9), 500);
        check.due("at 3 still", v.about(0, 2), 3);
        check.due("then it falls", v.go(0, 0, 1, 12), 3);
        check.due("none is left to go", v.about(0, 9), 500);
    }

    private static void fullnessOfTheGround() {
        for (int fullness : new int[] {0, 9, 10, 11}) {
            GasVoyages v = new GasVoyages();
            v.level(0, 14, fullness);
            v.fly(0, 0, 0, 200, 10, 0);
            v.go(0, 0, 1, 1);
            check.due("gas on the ground", v.about(0, 3), Math.min(10, fullness));
            check.due("went", v.about(0, 9), Math.max(0, 10 - fullness));
            check.due("landed", v.about(0, 6), 1);
        }
    }

    /** "stays on its CELL where that leads beyond THE LAND": each wind from each CELL. */
    private static void beyondTheLand() {
        for (int dx = -2; dx <= 2; dx++) {
            for (int dy = -2; dy <= 2; dy++) {
                for (int x = 0; x < 5; x++) {
                    oneColumn(dx, dy, x);
                }
            }
        }
    }

    private static void oneColumn(int dx, int dy, int x) {
        GasVoyages v = new GasVoyages();
        v.land(5, 4);
        v.wind(true, 1, 0, 23, dx, dy);
        for (int y = 0; y < 4; y++) {
            v.fly(x, y, 0, 13, 10, 0);
            v.go(y, 0, 1, 1);
            boolean on = x + dx >= 0 && x + dx <= 4 && y + dy >= 0 && y + dy <= 3;
            String told = x + ", " + y + " by " + dx + ", " + dy;
            check.due(told + ": x", v.about(y, 0), on ? x + dx : x);
            check.due(told + ": y", v.about(y, 1), on ? y + dy : y);
            check.due(told + ": its tick is one more all the same", v.about(y, 5), 1);
            check.due(told + ": and its log", v.about(y, 7), 2);
        }
    }

    private static void beyondTheLeastAndGreatestLand() {
        int[][] lands = {{4, 4}, {4, 24}, {24, 4}, {24, 24}};
        for (int[] wh : lands) {
            GasVoyages v = new GasVoyages();
            v.land(wh[0], wh[1]);
            v.wind(true, 1, 0, 0, 2, 2);
            v.wind(true, 1, 1, 1, 1, 0);
            v.wind(true, 1, 2, 2, 0, 1);
            v.fly(wh[0] - 3, wh[1] - 3, 0, 13, 10, 0);
            for (int i = 0; i < 3; i++) {
                v.go(0, 0, 1, 1);
                check.due("the last column", v.about(0, 0), wh[0] - 1);
                check.due("the last row", v.about(0, 1), wh[1] - 1);
            }
        }
    }

    /** "it LANDED, on its CELL. One that LANDED goes no more." No WIND moves it, and no CELL is a bar to it. */
    private static void landedOnItsCell() {
        for (int kind = 0; kind <= 2; kind++) {
            GasVoyages v = new GasVoyages();
            for (int l = 1; l <= 7; l++) {
                v.wind(true, l, 0, 23, 1, 1);
            }
            v.fly(5, 5, 23, 200, 0, 0);
            v.cell(5, 5, kind);
            check.due("lands", v.go(0, 0, 1, 12), 1);
            check.due("x", v.about(0, 0), 5);
            check.due("y", v.about(0, 1), 5);
            check.due("its tick", v.about(0, 5), 24);
            check.due("goes no more", v.go(0, 1, 50, 1), -3);
            check.due("its tick stays", v.about(0, 5), 24);
            check.due("its entries stay", v.about(0, 7), 2);
        }
    }
}
