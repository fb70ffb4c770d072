/** Boundary cases of promises 11 to 13 and of A PLAN, beside those of RangesTest and HoursTest. */
public final class PlansBoundsTest {
    private static final Check check = new Check();

    public static void main(String[] args) {
        firstRowOfEachLength();
        rowOfBallastAlone();
        lastRow();
        firstOrderHighest();
        behindALandingZeroAlone();
        landingInTheLastTick();
        closedInTheTicks();
        closedInEachTick();
        landingOnClosedAndWater();
        waterUnderTheWay();
        doseOfOneAndFifty();
        aimsInTheCorners();
        awayWhereNothingMoves();
        awayOfLikeOnesTheFirst();
        awayFromWhereTheFlightBegan();
        planWithAFullLog();
        ordersNotSoMany();
        shorterPlanBehindALonger();
        noneLeavesTheLatest();
        check.end("PlansBoundsTest");
    }

    private static void orders(String told, GasVoyages v, int... due) {
        for (int i = 0; i < due.length; i++) {
            check.due(told + ": order " + i, v.order(i), due[i]);
        }
        check.due(told + ": no order before the first", v.order(-1), -1);
        check.due(told + ": no order behind the last", v.order(due.length), -1);
    }

    private static GasVoyages balanced() {
        GasVoyages v = new GasVoyages();
        v.fly(5, 5, 0, 12, 10, 1);
        return v;
    }

    /** "A PLAN for n TICKS (1 .. 6)", "the first of those": without winds all rows are alike. */
    private static void firstRowOfEachLength() {
        for (int n = 1; n <= 6; n++) {
            GasVoyages v = balanced();
            check.due("plan for " + n, v.plan(0, n, 1, 5, 5), 0);
            orders("plan for " + n, v, new int[n]);
            check.due("away for " + n, v.away(0, n, 1), 0);
            orders("away for " + n, v, new int[n]);
        }
    }

    /** At each LEVEL it rises only if all BALLAST was dropped that could be: one row of 729 comes to LEVEL 7. */
    private static void rowOfBallastAlone() {
        GasVoyages v = new GasVoyages();
        for (int l = 1; l <= 6; l++) {
            v.level(l, 55 - 5 * l, 500);
        }
        v.wind(false, 7, 5, 5, 1, 0);
        v.fly(5, 5, 0, 40, 20, 60);
        check.due("six doses", v.plan(0, 6, 10, 6, 5), 0);
        orders("six doses", v, 1, 1, 1, 1, 1, 1);
        check.due("five ticks are too few", v.plan(0, 5, 10, 6, 5), 1);
        check.due("a dose of 9 is enough still", v.plan(0, 6, 9, 6, 5), 0);
        check.due("a dose of 8 is too small", v.plan(0, 6, 8, 6, 5), 1);
    }

    /** At each LEVEL it falls only if all GAS was let go that could be: the last row alone comes down to LEVEL 1. */
    private static void lastRow() {
        GasVoyages v = new GasVoyages();
        for (int l = 1; l <= 6; l++) {
            v.level(l, 50, 500);
        }
        v.fly(5, 5, 0, 200, 300, 40);
        v.go(0, 0, 1, 6);
        check.due("at 7", v.about(0, 2), 7);
        int[] densities = {50, 40, 20, 13, 11, 9};
        for (int l = 2; l <= 7; l++) {
            v.level(l, densities[l - 2], 500);
        }
        v.wind(false, 1, 11, 11, 1, 0);
        check.due("six doses", v.plan(0, 6, 50, 6, 5), 0);
        orders("six doses", v, 2, 2, 2, 2, 2, 2);
        check.due("it is the one that goes away, too", v.away(0, 6, 50), 1);
        orders("away", v, 2, 2, 2, 2, 2, 2);
        check.due("all others stay", v.plan(0, 6, 50, 5, 5), 0);
        orders("all others", v, 0, 0, 0, 0, 0, 0);
    }

    /** "in order as numbers to the base 3, first ORDER highest": one BALLAST, dropped in whichever TICK. */
    private static void firstOrderHighest() {
        for (int n = 1; n <= 6; n++) {
            GasVoyages v = balanced();
            v.wind(false, 2, n - 1, n - 1, 0, 1);
            check.due("at 2 in the last of " + n, v.plan(0, n, 1, 5, 6), 0);
            int[] due = new int[n];
            due[n - 1] = 1;
            orders("at 2 in the last of " + n, v, due);
        }
    }

    /** "(those behind a LANDING 0 alone)". */
    private static void behindALandingZeroAlone() {
        for (int landing = 1; landing <= 6; landing++) {
            GasVoyages v = balanced();
            v.wind(false, 1, 0, 23, 1, 0);
            v.wind(false, 2, 0, 23, 0, 2);
            check.due("landing in tick " + landing, v.plan(0, 6, 1, 4 + landing, 5), 0);
            int[] due = new int[6];
            due[landing - 1] = 2;
            orders("landing in tick " + landing, v, due);
        }
    }

    private static void landingInTheLastTick() {
        for (int n = 1; n <= 6; n++) {
            GasVoyages v = balanced();
            v.wind(false, 1, 0, 23, 1, 0);
            v.cell(4 + n, 5, 1);
            v.wind(false, 2, 0, 23, 0, 2);
            // It would LAND on WATER there, and may not; one CELL less or more is as near.
            check.due("water in tick " + n, v.plan(0, n, 1, 4 + n, 5), 1);
            v.cell(4 + n, 5, 0);
            check.due("landing in the last of " + n, v.plan(0, n, 1, 4 + n, 5), 0);
            int[] due = new int[n];
            due[n - 1] = 2;
            orders("landing in the last of " + n, v, due);
        }
    }

    /** One that can but rise, by WINDS that lead x by 1 in each TICK. */
    private static GasVoyages withoutChoice() {
        GasVoyages v = new GasVoyages();
        for (int l = 1; l <= 7; l++) {
            v.wind(false, l, 0, 23, 1, 0);
        }
        v.fly(2, 5, 0, 1, 500, 0);
        return v;
    }

    /** "come to no CLOSED CELL (in the n TICKS)": where it is, in the first, in the last, and behind the last. */
    private static void closedInTheTicks() {
        for (int n = 1; n <= 6; n++) {
            int[][] closedAndFound = {{2, 1}, {3, 0}, {2 + n, 0}, {3 + n, 1}};
            for (int[] c : closedAndFound) {
                GasVoyages v = withoutChoice();
                v.cell(c[0], 5, 2);
                boolean found = c[1] == 1;
                check.due(n + " ticks, closed at " + c[0], v.plan(0, n, 50, 2 + n, 5), found ? 0 : -1);
                check.due(n + " ticks away, closed at " + c[0], v.away(0, n, 50), found ? n * n : -1);
            }
        }
    }

    private static void closedInEachTick() {
        for (int x = 3; x <= 8; x++) {
            GasVoyages v = withoutChoice();
            v.cell(x, 5, 2);
            check.due("six ticks, closed at " + x, v.plan(0, 6, 50, 0, 0), -1);
            v.cell(x, 5, 1);
            check.due("six ticks, water at " + x, v.plan(0, 6, 50, 8, 5), 0);
        }
    }

    /** "(LANDING on one, too), nor LAND on WATER". */
    private static void landingOnClosedAndWater() {
        int[] due = {0, -1, -1};
        for (int kind = 0; kind <= 2; kind++) {
            for (int n = 1; n <= 6; n += 5) {
                GasVoyages v = new GasVoyages();
                v.fly(5, 5, 0, 200, 0, 0);
                v.cell(5, 5, kind);
                check.due("it can but land on " + kind, v.plan(0, n, 1, 5, 5), due[kind]);
                check.due("it can but land on " + kind + ", away", v.away(0, n, 1), due[kind]);
                check.due("its orders", v.order(0), due[kind]);
            }
        }
    }

    private static void waterUnderTheWay() {
        GasVoyages v = withoutChoice();
        for (int x = 0; x < 12; x++) {
            v.cell(x, 5, 1);
        }
        check.due("above water all the way", v.plan(0, 6, 1, 8, 5), 0);
    }

    /** "with a DOSE": of 50 all is needed, of 1 that one is. */
    private static void doseOfOneAndFifty() {
        int[] ballasts = {1, 50};
        for (int ballast : ballasts) {
            GasVoyages v = new GasVoyages();
            v.level(1, 1, 500);
            v.wind(false, 2, 0, 23, 1, 0);
            v.fly(5, 5, 0, 1, 11, ballast);
            check.due("rises without " + ballast, v.plan(0, 1, ballast, 6, 5), 0);
            orders("ballast", v, 1);
            check.due("what there is, if it is less", v.plan(0, 1, 50, 6, 5), 0);
            if (ballast > 1) {
                check.due("not with one of it", v.plan(0, 1, ballast - 1, 6, 5), 1);
            }
        }
        GasVoyages v = new GasVoyages();
        v.level(1, 1, 500);
        v.wind(false, 1, 0, 23, 1, 0);
        v.fly(5, 5, 0, 1, 10, 0);
        check.due("one gas less and it lands", v.plan(0, 1, 1, 5, 5), 0);
        orders("gas", v, 2);
    }

    /** The aim may be each CELL of THE LAND. */
    private static void aimsInTheCorners() {
        GasVoyages v = new GasVoyages();
        v.land(24, 24);
        v.fly(0, 0, 0, 13, 10, 0);
        check.due("where it is", v.plan(0, 6, 1, 0, 0), 0);
        check.due("the farthest", v.plan(0, 6, 1, 23, 23), 1058);
        check.due("along x", v.plan(0, 6, 1, 23, 0), 529);
        check.due("along y", v.plan(0, 6, 1, 0, 23), 529);
        v.cell(23, 23, 2);
        check.due("an aim may be closed", v.plan(0, 6, 1, 23, 23), 1058);
    }

    /** "(or to where it began greatest)": the greatest may be 0, and is found. */
    private static void awayWhereNothingMoves() {
        GasVoyages v = balanced();
        check.due("away", v.away(0, 3, 1), 0);
        orders("away", v, 0, 0, 0);
    }

    private static void awayOfLikeOnesTheFirst() {
        GasVoyages v = balanced();
        v.wind(false, 1, 0, 23, 1, 0);
        v.wind(false, 2, 0, 23, -1, 0);
        check.due("both ways one step", v.away(0, 1, 1), 1);
        orders("both ways", v, 0);
        v.wind(false, 2, 0, 23, -1, 1);
        check.due("the other is farther", v.away(0, 1, 1), 2);
        orders("the other", v, 1);
    }

    /** "A PLAN away from where it began": not from where it is. */
    private static void awayFromWhereTheFlightBegan() {
        GasVoyages v = balanced();
        v.wind(true, 1, 0, 23, -2, 0);
        v.wind(false, 1, 0, 23, 2, 0);
        v.go(0, 0, 1, 2);
        check.due("staying is farthest", v.away(0, 1, 1), 16);
        check.due("it rises, where no wind is", v.order(0), 1);
        v.wind(false, 2, 0, 23, 2, 0);
        check.due("but landing is left", v.away(0, 1, 1), 16);
        check.due("landing", v.order(0), 2);
    }

    private static void planWithAFullLog() {
        GasVoyages v = balanced();
        for (int i = 0; i < 4; i++) {
            v.go(0, 0, 1, 12);
        }
        v.go(0, 0, 1, 11);
        check.due("full", v.go(0, 0, 1, 1), -4);
        check.due("a plan all the same", v.plan(0, 6, 1, 5, 5), 0);
        check.due("away all the same", v.away(0, 6, 1), 0);
    }

    /** "NONE: not so many." */
    private static void ordersNotSoMany() {
        GasVoyages v = new GasVoyages();
        int[] all = {Integer.MIN_VALUE, -1, 0, 1, 5, 6, Integer.MAX_VALUE};
        for (int i : all) {
            check.due("none was found yet: order " + i, v.order(i), -1);
        }
        v.fly(5, 5, 0, 12, 10, 1);
        for (int n = 1; n <= 6; n++) {
            v.plan(0, n, 1, 5, 5);
            for (int i = -2; i <= 7; i++) {
                check.due("order " + i + " of " + n, v.order(i), i >= 0 && i < n ? 0 : -1);
            }
            check.due("far below", v.order(Integer.MIN_VALUE), -1);
            check.due("far beyond", v.order(Integer.MAX_VALUE), -1);
        }
    }

    private static void shorterPlanBehindALonger() {
        GasVoyages v = balanced();
        v.wind(false, 2, 0, 23, 0, 1);
        v.plan(0, 6, 1, 5, 11);
        check.due("the sixth", v.order(5), 0);
        v.away(0, 1, 1);
        orders("the shorter alone", v, 1);
    }

    /** "ORDER i of the latest PLAN that was found": not of one that was none, nor of one that was refused. */
    private static void noneLeavesTheLatest() {
        GasVoyages v = balanced();
        v.wind(false, 2, 1, 1, 0, 1);
        check.due("found", v.plan(0, 2, 1, 5, 6), 0);
        v.fly(2, 2, 0, 200, 0, 0);
        v.cell(2, 2, 2);
        check.due("none", v.plan(1, 6, 1, 5, 6), -1);
        orders("behind none", v, 0, 1);
        check.due("none", v.away(1, 1, 1), -1);
        orders("behind none away", v, 0, 1);
        check.due("refused", v.plan(0, 7, 1, 5, 6), -2);
        v.go(1, 0, 1, 1);
        check.due("refused", v.plan(1, 1, 1, 5, 6), -3);
        check.due("refused", v.away(1, 1, 1), -3);
        orders("behind refusals", v, 0, 1);
    }
}
